/- 08.more.lean.txt -/
section pt_08more
/-! MORE ROWS: bits, switches, null, static tables, ends with references, small laws for the walks -/
theorem nle {a b : Nat} (h : Nat.ble a b = true) : a ≤ b := Nat.le_of_ble_eq_true h
theorem uF_same {α : Type} {f : Nat → α} {k : Nat} {a b : α} : uF (uF f k a) k b = uF f k b := by
  funext j
  unfold uF
  split <;> rfl
theorem uF_mv {α : Type} {f : Nat → α} {j k : Nat} {a b : α} (h : j ≠ k) : uF (uF f j a) k b = uF (uF f k b) j a := by
  funext i
  unfold uF
  by_cases h1 : i = k
  · have h2 : ¬ i = j := fun e => h (e.symm.trans h1)
    rw [if_pos h1, if_neg h2, if_pos h1]
  · rw [if_neg h1]
    by_cases h2 : i = j
    · rw [if_pos h2, if_pos h2]
    · rw [if_neg h2, if_neg h2, if_neg h1]
theorem uZ_at {α : Type} {f : Int → α} {k : Int} {v : α} : uZ f k v k = v := by unfold uZ; rw [if_pos rfl]
theorem uZ_ne {α : Type} {f : Int → α} {k j : Int} {v : α} (h : j ≠ k) : uZ f k v j = f j := by unfold uZ; rw [if_neg h]
theorem uZ_all {α : Type} {P : α → Prop} {f : Int → α} {k : Int} {v : α} (hf : ∀ j, P (f j)) (hv : P v) : ∀ j, P (uZ f k v j) := by
  intro j
  unfold uZ
  split
  · exact hv
  · exact hf j
theorem FT_i {z : Int} : FT .int (iv z) := ⟨z, rfl⟩
theorem FT_b {z : Int} (h : z = 0 ∨ z = 1) : FT .boolean (iv z) := h.elim (fun e => Or.inl (by rw [e])) (fun e => Or.inr (by rw [e]))
theorem FT_o {C : String} {r : Option Nat} : FT (.object C) (.inr r) := ⟨r, rfl⟩
theorem FT_a {t : FieldType} {r : Option Nat} : FT (.array t) (.inr r) := ⟨r, rfl⟩
def zShr (a b : Int) : Int := (i32 a >>> (i32 b &&& 31)).toInt
def zShl (a b : Int) : Int := (i32 a <<< (i32 b &&& 31)).toInt
def zUshr (a b : Int) : Int := ((i32 a).toUInt32 >>> ((i32 b).toUInt32 &&& Int32.toUInt32 31)).toInt32.toInt
def zAnd (a b : Int) : Int := (i32 a &&& i32 b).toInt
def zOr (a b : Int) : Int := (i32 a ||| i32 b).toInt
def zXor (a b : Int) : Int := (i32 a ^^^ i32 b).toInt
theorem zShr_r (a b : Int) : inR (zShr a b) := toInt_inR _
theorem zShl_r (a b : Int) : inR (zShl a b) := toInt_inR _
theorem zUshr_r (a b : Int) : inR (zUshr a b) := toInt_inR _
theorem zAnd_r (a b : Int) : inR (zAnd a b) := toInt_inR _
theorem zOr_r (a b : Int) : inR (zOr a b) := toInt_inR _
theorem zXor_r (a b : Int) : inR (zXor a b) := toInt_inR _
section S2
variable {l : Launch} {y : MethodName} {b : ByteArray} {n d mc ms : Nat} {av : List AV} {ws : EW}
theorem AMi.of2 {ret : FieldType} {Post : Int → EW → Prop} (hy : plainName y.cls = true) (hn : av.length ≤ n)
    (body : ∀ (D : va_G) (G : GG) (A : Nat → Prop) (p : Program) (e : Env) (s : State) (m : MethodId) (args : Array Value) (below : List Frame) (meth : Method) (c : Code) (Po : Int → EW → Prop), (∀ z u, Post z u → Po z u) → Cx p s m args meth c D G A b n (some ret) y.cls →
      S_ p l e (rmD d mc ms) s m args below meth c (MQ below (QcI D G A Po) args s mc ms A) D G A n 0 0 0 (aL av) [] ws) : AMi l y b n ret d mc ms av ws Post :=
  AMi.of hy hn (fun D G A p e s m args below meth c X => body D G A p e s m args below meth c Post (fun _ _ h => h) X)
theorem AMv.of2 {Post : EW → Prop} (hy : plainName y.cls = true) (hn : av.length ≤ n)
    (body : ∀ (D : va_G) (G : GG) (A : Nat → Prop) (p : Program) (e : Env) (s : State) (m : MethodId) (args : Array Value) (below : List Frame) (meth : Method) (c : Code) (Po : EW → Prop), (∀ u, Post u → Po u) → meth.name = y.name → Cx p s m args meth c D G A b n none y.cls →
      S_ p l e (rmD d mc ms) s m args below meth c (MQ below (QcV D G A Po) args s mc ms A) D G A n 0 0 0 (aL av) [] ws) : AMv l y b n d mc ms av ws Post :=
  AMv.of hy hn (fun D G A p e s m args below meth c hnm X => body D G A p e s m args below meth c Post (fun _ h => h) hnm X)
theorem AMr.of2 {ret : FieldType} {Post : Nat → EW → Prop} (hy : plainName y.cls = true) (hn : av.length ≤ n)
    (body : ∀ (D : va_G) (G : GG) (A : Nat → Prop) (p : Program) (e : Env) (s : State) (m : MethodId) (args : Array Value) (below : List Frame) (meth : Method) (c : Code) (Po : Nat → EW → Prop), (∀ z u, Post z u → Po z u) → Cx p s m args meth c D G A b n (some ret) y.cls →
      S_ p l e (rmD d mc ms) s m args below meth c (MQ below (QcR D G A Po) args s mc ms A) D G A n 0 0 0 (aL av) [] ws) : AMr l y b n ret d mc ms av ws Post :=
  AMr.of hy hn (fun D G A p e s m args below meth c X => body D G A p e s m args below meth c Post (fun _ _ h => h) X)
theorem AMi.weaken {ret : FieldType} {P1 P2 : Int → EW → Prop} (h : AMi l y b n ret d mc ms av ws P1) (hp : ∀ z u, P1 z u → P2 z u) : AMi l y b n ret d mc ms av ws P2 := by
  intro D G sz p e h1 h2 h3 s m args below h4 h5 h6 h7
  obtain ⟨k, o, a1, a2, a3, ⟨a4, a5⟩, a6⟩ := h D G sz p e h1 h2 h3 s m args below h4 h5 h6 h7
  obtain ⟨r, u, b1, ⟨z, b2, b3⟩, b4⟩ := a4
  exact ⟨k, o, a1, a2, a3, ⟨⟨r, u, b1, ⟨z, b2, hp z u b3⟩, b4⟩, a5⟩, a6⟩
theorem AMv.weaken {P1 P2 : EW → Prop} (h : AMv l y b n d mc ms av ws P1) (hp : ∀ u, P1 u → P2 u) : AMv l y b n d mc ms av ws P2 := by
  intro D G sz p e h1 h2 h3 s m args below h4 h5 h6 h7
  obtain ⟨k, o, a1, a2, a3, ⟨a4, a5⟩, a6⟩ := h D G sz p e h1 h2 h3 s m args below h4 h5 h6 h7
  obtain ⟨u, b1, b3, b4⟩ := a4
  exact ⟨k, o, a1, a2, a3, ⟨⟨u, b1, hp u b3, b4⟩, a5⟩, a6⟩
end S2
section S3
variable {p : Program} {l : Launch} {e : Env} {R : Room} {s : State} {m : MethodId} {args : Array Value} {below : List Frame} {meth : Method} {c : Code} {Q : State → Prop} {D : va_G} {G : GG} {A : Nat → Prop} {cc : ByteArray} {nL cells slots pc : Nat} {rt : Option FieldType} {own : String} {L : Nat → Option AV} {st : List AV} {ws : EW}
theorem S_ishr (X : Cx p s m args meth c D G A cc nL rt own) {x y : Int} (hdg : decode cc pc = .ok (.ishr, 1)) (k : S_ p l e R s m args below meth c Q D G A nL cells slots (pc + 1) L (iv (zShr x y) :: st) ws) : S_ p l e R s m args below meth c Q D G A nL cells slots pc L (iv y :: iv x :: st) ws := by
  intro H locs ls hP hD hS hl
  have h3 := k H locs ls hP hD hS hl
  refine lv_ishr X.1 X.2.1 hdg ?_
  have e1 : tV (iv (zShr x y)) = .int (i32 x >>> (i32 y &&& 31)) := congrArg Value.int (i32_of _)
  rw [List.map_cons, e1] at h3
  exact h3
theorem S_ishl (X : Cx p s m args meth c D G A cc nL rt own) {x y : Int} (hdg : decode cc pc = .ok (.ishl, 1)) (k : S_ p l e R s m args below meth c Q D G A nL cells slots (pc + 1) L (iv (zShl x y) :: st) ws) : S_ p l e R s m args below meth c Q D G A nL cells slots pc L (iv y :: iv x :: st) ws := by
  intro H locs ls hP hD hS hl
  have h3 := k H locs ls hP hD hS hl
  refine lv_ishl X.1 X.2.1 hdg ?_
  have e1 : tV (iv (zShl x y)) = .int (i32 x <<< (i32 y &&& 31)) := congrArg Value.int (i32_of _)
  rw [List.map_cons, e1] at h3
  exact h3
theorem S_iushr (X : Cx p s m args meth c D G A cc nL rt own) {x y : Int} (hdg : decode cc pc = .ok (.iushr, 1)) (k : S_ p l e R s m args below meth c Q D G A nL cells slots (pc + 1) L (iv (zUshr x y) :: st) ws) : S_ p l e R s m args below meth c Q D G A nL cells slots pc L (iv y :: iv x :: st) ws := by
  intro H locs ls hP hD hS hl
  exact lv_iushr X.1 X.2.1 hdg (i32_of _).symm (k H locs ls hP hD hS hl)
theorem S_iand (X : Cx p s m args meth c D G A cc nL rt own) {x y : Int} (hdg : decode cc pc = .ok (.iand, 1)) (k : S_ p l e R s m args below meth c Q D G A nL cells slots (pc + 1) L (iv (zAnd x y) :: st) ws) : S_ p l e R s m args below meth c Q D G A nL cells slots pc L (iv y :: iv x :: st) ws := by
  intro H locs ls hP hD hS hl
  have h3 := k H locs ls hP hD hS hl
  refine lv_iand X.1 X.2.1 hdg ?_
  have e1 : tV (iv (zAnd x y)) = .int (i32 x &&& i32 y) := congrArg Value.int (i32_of _)
  rw [List.map_cons, e1] at h3
  exact h3
theorem S_ior (X : Cx p s m args meth c D G A cc nL rt own) {x y : Int} (hdg : decode cc pc = .ok (.ior, 1)) (k : S_ p l e R s m args below meth c Q D G A nL cells slots (pc + 1) L (iv (zOr x y) :: st) ws) : S_ p l e R s m args below meth c Q D G A nL cells slots pc L (iv y :: iv x :: st) ws := by
  intro H locs ls hP hD hS hl
  have h3 := k H locs ls hP hD hS hl
  refine lv_ior X.1 X.2.1 hdg ?_
  have e1 : tV (iv (zOr x y)) = .int (i32 x ||| i32 y) := congrArg Value.int (i32_of _)
  rw [List.map_cons, e1] at h3
  exact h3
theorem S_ixor (X : Cx p s m args meth c D G A cc nL rt own) {x y : Int} (hdg : decode cc pc = .ok (.ixor, 1)) (k : S_ p l e R s m args below meth c Q D G A nL cells slots (pc + 1) L (iv (zXor x y) :: st) ws) : S_ p l e R s m args below meth c Q D G A nL cells slots pc L (iv y :: iv x :: st) ws := by
  intro H locs ls hP hD hS hl
  have h3 := k H locs ls hP hD hS hl
  refine lv_ixor X.1 X.2.1 hdg ?_
  have e1 : tV (iv (zXor x y)) = .int (i32 x ^^^ i32 y) := congrArg Value.int (i32_of _)
  rw [List.map_cons, e1] at h3
  exact h3
theorem S_tswIn (X : Cx p s m args meth c D G A cc nL rt own) {dflt lo hi : Int} {offs : Array Int} {len : Nat} {x : Int} {off v : Int} {j tgt : Nat} (hdg : decode cc pc = .ok (.tableswitch dflt lo hi offs, len)) (hx : x = v) (ho : offs[j]? = some off) (hv : inR v ∧ v = lo + j ∧ v ≤ hi) (ht : (pc : Int) + off = (tgt : Int))
    (k : S_ p l e R s m args below meth c Q D G A nL cells slots tgt L st ws) : S_ p l e R s m args below meth c Q D G A nL cells slots pc L (iv x :: st) ws := by
  intro H locs ls hP hD hS hl
  subst hx
  have e1 : (i32 x).toInt = x := i32_toInt hv.1
  refine lv_tableIn X.1 X.2.1 hdg (by rw [e1]; omega) (by rw [e1]; omega) ?_ ht (k H locs ls hP hD hS hl)
  rw [e1]
  have e2 : (x - lo).toNat = j := by omega
  rw [e2]; exact ho
theorem S_tswOut (X : Cx p s m args meth c D G A cc nL rt own) {dflt lo hi : Int} {offs : Array Int} {len : Nat} {x : Int} {tgt : Nat} (hdg : decode cc pc = .ok (.tableswitch dflt lo hi offs, len)) (hx : inR x) (h : x < lo ∨ hi < x) (ht : (pc : Int) + dflt = (tgt : Int))
    (k : S_ p l e R s m args below meth c Q D G A nL cells slots tgt L st ws) : S_ p l e R s m args below meth c Q D G A nL cells slots pc L (iv x :: st) ws := by
  intro H locs ls hP hD hS hl
  exact lv_tableOut X.1 X.2.1 hdg (by rw [i32_toInt hx]; exact h) ht (k H locs ls hP hD hS hl)
theorem S_lkp (X : Cx p s m args meth c D G A cc nL rt own) {dflt : Int} {ps : Array (Int × Int)} {len : Nat} {x v : Int} {off : Int} {tgt : Nat} (hdg : decode cc pc = .ok (.lookupswitch dflt ps, len)) (hx : x = v) (hv : inR v) (hp : (ps.toList.zip (ps.toList.drop 1)).all (fun (a, next) => a.1 < next.1) = true) (ho : Op.lookupswitch.offset ps.toList dflt v = off) (ht : (pc : Int) + off = (tgt : Int))
    (k : S_ p l e R s m args below meth c Q D G A nL cells slots tgt L st ws) : S_ p l e R s m args below meth c Q D G A nL cells slots pc L (iv x :: st) ws := by
  intro H locs ls hP hD hS hl
  subst hx
  exact lv_lookup X.1 X.2.1 hdg hp (by rw [i32_toInt hv]; exact ho) ht (k H locs ls hP hD hS hl)
theorem S_lkpD (X : Cx p s m args meth c D G A cc nL rt own) {dflt : Int} {ps : Array (Int × Int)} {len : Nat} {x : Int} {off : Int} {tgt : Nat} (hdg : decode cc pc = .ok (.lookupswitch dflt ps, len)) (hx : inR x) (hp : (ps.toList.zip (ps.toList.drop 1)).all (fun (a, next) => a.1 < next.1) = true) (ho : Op.lookupswitch.offset ps.toList dflt x = off) (ht : (pc : Int) + off = (tgt : Int))
    (k : S_ p l e R s m args below meth c Q D G A nL cells slots tgt L st ws) : S_ p l e R s m args below meth c Q D G A nL cells slots pc L (iv x :: st) ws := by
  intro H locs ls hP hD hS hl
  exact lv_lookup X.1 X.2.1 hdg hp (by rw [i32_toInt hx]; exact ho) ht (k H locs ls hP hD hS hl)
theorem S_getsLEAST (X : Cx p s m args meth c D G A cc nL rt own) {idx : Nat} (hlink : Cond.fieldLink own idx "BorrowedBeat$TownReader" "LEAST" "[I" ∈ uw) (hdg : decode cc pc = .ok (.getstatic idx, 3))
    (k : ∀ t : Nat, va_T .int t 5 fTL A s s.heap → S_ p l e R s m args below meth c Q D G A nL cells slots (pc + 3) L (rv t :: st) ws) : S_ p l e R s m args below meth c Q D G A nL cells slots pc L st ws := by
  intro H locs ls hP hD hS hl
  obtain ⟨-, tL, tM, h2, h3, h4, h5⟩ := X.2.2.2.2.2.2.2.1
  exact va_gets X.1 X.2.1 h2 hS X.2.2.2.1 (X.2.2.2.2.1 _ hlink) (fun _ h9 => h9) hdg (k tL h3 H locs ls hP hD hS hl)
theorem S_getsMOST (X : Cx p s m args meth c D G A cc nL rt own) {idx : Nat} (hlink : Cond.fieldLink own idx "BorrowedBeat$TownReader" "MOST" "[I" ∈ uw) (hdg : decode cc pc = .ok (.getstatic idx, 3))
    (k : ∀ t : Nat, va_T .int t 5 fTM A s s.heap → S_ p l e R s m args below meth c Q D G A nL cells slots (pc + 3) L (rv t :: st) ws) : S_ p l e R s m args below meth c Q D G A nL cells slots pc L st ws := by
  intro H locs ls hP hD hS hl
  obtain ⟨-, tL, tM, h2, h3, h4, h5⟩ := X.2.2.2.2.2.2.2.1
  exact va_gets X.1 X.2.1 h4 hS X.2.2.2.1 (X.2.2.2.2.1 _ hlink) (fun _ h9 => h9) hdg (k tM h5 H locs ls hP hD hS hl)
theorem S_aret {Post : Nat → EW → Prop} {mc ms : Nat} {t0 : FieldType} (X : Cx p s m args meth c D G A cc nL (some t0) own) {a : Nat} (hn : (∃ n, t0 = .object n) ∨ ∃ t, t0 = .array t) (hc1 : cells ≤ mc) (hc2 : slots ≤ ms) (hdg : decode cc pc = .ok (.areturn, 1)) (hp : Post a ws) : S_ p l e (R) s m args below meth c (MQ below (QcR D G A Post) args s mc ms A) D G A nL cells slots pc L [rv a] ws := by
  intro H locs ls hP hD hS hl
  refine W.widen (k := mc) (n := ms) hc1 hc2 ?_
  exact W.aret (v := .ref a) X.1 X.2.1 X.2.2.2.2.2.2.2.2.1 hn (Or.inr ⟨a, rfl⟩) (fun t ht hW => ⟨⟨ws, a, rfl, trivial, hp, by rw [ht]; exact hP, va_K.moved hW.alike X.2.2.2.2.2.1, hD⟩, hS.F ht⟩) hS.2.2 hdg X.2.2.2.2.2.2.2.2.2
theorem S_tald (X : Cx p s m args meth c D G A cc nL rt own) {t N : Nat} {f : Nat → Value} {g : Int → Int} {z : Int} (hT : va_T .int t N f A s s.heap) (hfg : ∀ j : Nat, f j = .int (i32 (g (j : Int)))) (h0 : 0 ≤ z) (h1 : z < N) (hN : N ≤ 2147483647) (hdg : decode cc pc = .ok (.iaload, 1)) (k : S_ p l e R s m args below meth c Q D G A nL cells slots (pc + 1) L (iv (g z) :: st) ws) : S_ p l e R s m args below meth c Q D G A nL cells slots pc L (iv z :: rv t :: st) ws := by
  intro H locs ls hP hD hS hl
  refine va_ti X.1 X.2.1 hT hS (i32_vp h0 h1 hN) (v := .int (i32 (g z))) ?_ hdg (k H locs ls hP hD hS hl)
  rw [hfg, i32_nat h0 ⟨by omega, by omega⟩, Int.toNat_of_nonneg h0]
theorem S_iincK (X : Cx p s m args meth c D G A cc nL rt own) {i : Nat} {n z w : Int} (hdg : decode cc pc = .ok (.iinc i n, 3)) (hn : i < nL) (hL : L i = some (iv z)) (hw : z + n = w) (kk : S_ p l e R s m args below meth c Q D G A nL cells slots (pc + 3) (uF L i (some (iv w))) st ws) : S_ p l e R s m args below meth c Q D G A nL cells slots pc L st ws := by
  subst hw
  exact S_iinc X hdg hn hL kk
end S3
def gTL (z : Int) : Int := [1, 0, 0, 0, 0].getD z.toNat 0
def gTM (z : Int) : Int := [99, 9, 3, 5, 10].getD z.toNat 0
theorem fTL_g (j : Nat) : fTL j = .int (i32 (gTL (j : Int))) := rfl
theorem fTM_g (j : Nat) : fTM j = .int (i32 (gTM (j : Int))) := rfl
end pt_08more
/- 09.spec.lean.txt -/
section pt_09spec
/-! WHAT A TEXT IS, in numbers: T the bytes, n how many; a failure is its place (inl), a success the place behind and what was read (inr) -/
def zHeld (v a b : Int) : Int := if v < a then a else if b < v then b else v
theorem uF_id {α : Type} {f : Nat → α} {k : Nat} {v : α} (h : f k = v) : f = uF f k v := by
  funext j
  unfold uF
  split
  · next e => rw [e, h]
  · rfl
/-- a list laid into a row from a place on -/
def wrL (g : Int → Int) (k : Int) : List Int → Int → Int
  | [] => g
  | t :: ts => wrL (uZ g k t) (k + 1) ts
theorem wrL_app {g : Int → Int} {k : Int} {a b : List Int} : wrL g k (a ++ b) = wrL (wrL g k a) (k + a.length) b := by
  induction a generalizing g k with
  | nil => simp [wrL]
  | cons x a ih =>
    simp only [List.cons_append, wrL, ih, List.length_cons]
    congr 1
    omega
theorem wrL_one {g : Int → Int} {k t : Int} : wrL g k [t] = uZ g k t := rfl
theorem wrL_lo {g : Int → Int} {k j : Int} {a : List Int} (h : j < k) : wrL g k a j = g j := by
  induction a generalizing g k with
  | nil => rfl
  | cons x a ih => rw [wrL, ih (by omega), uZ_ne (by omega)]
theorem wrL_hi {g : Int → Int} {k j : Int} {a : List Int} (h : k + a.length ≤ j) : wrL g k a j = g j := by
  induction a generalizing g k with
  | nil => rfl
  | cons x a ih => rw [wrL, ih (by simp only [List.length_cons] at h; omega), uZ_ne (by simp only [List.length_cons] at h; omega)]
theorem wrL_in {g : Int → Int} {k : Int} {a : List Int} {i : Nat} {t : Int} (h : a[i]? = some t) : wrL g k a (k + i) = t := by
  induction a generalizing g k i with
  | nil => cases h
  | cons x a ih =>
    rw [wrL]
    cases i with
    | zero =>
      have h2 : x = t := Option.some.inj h
      rw [wrL_lo (by omega), ← h2]
      exact (congrArg (uZ g k x) (by omega)).trans uZ_at
    | succ i =>
      have h3 := ih (g := uZ g k x) (k := k + 1) (i := i) h
      rw [show k + ((i + 1 : Nat) : Int) = k + 1 + (i : Int) by omega]
      exact h3
theorem wrL_all {P : Int → Prop} {g : Int → Int} {k : Int} {a : List Int} (hg : ∀ j, P (g j)) (ha : ∀ t ∈ a, P t) : ∀ j, P (wrL g k a j) := by
  induction a generalizing g k with
  | nil => exact hg
  | cons x a ih => exact ih (uZ_all hg (ha x List.mem_cons_self)) (fun t h => ha t (List.mem_cons_of_mem _ h))
def skF (T : Int → Int) (n : Int) : Nat → Int → Int
  | 0, a => a
  | k + 1, a => if a < n ∧ T a = 32 then skF T n k (a + 1) else a
def sk (T : Int → Int) (n a : Int) : Int := skF T n (n - a).toNat a
def ch (T : Int → Int) (n a : Int) : Int := if a < n then T a else 0
theorem sk_blank {T : Int → Int} {n a : Int} (h : a < n) (h2 : T a = 32) : sk T n a = sk T n (a + 1) := by
  unfold sk
  rw [show (n - a).toNat = (n - (a + 1)).toNat + 1 by omega, skF, if_pos ⟨h, h2⟩]
theorem sk_stop {T : Int → Int} {n a : Int} (h : ¬ (a < n ∧ T a = 32)) : sk T n a = a := by
  unfold sk
  cases (n - a).toNat with
  | zero => rfl
  | succ k => rw [skF, if_neg h]
theorem skF_in {T : Int → Int} {n : Int} : ∀ (k : Nat) (a : Int), a ≤ n → a ≤ skF T n k a ∧ skF T n k a ≤ n := by
  intro k
  induction k with
  | zero => intro a h; exact ⟨Int.le_refl _, h⟩
  | succ k ih =>
    intro a h
    rw [skF]
    split
    · next h2 => have := ih (a + 1) (by omega); omega
    · omega
theorem sk_in {T : Int → Int} {n a : Int} (h : a ≤ n) : a ≤ sk T n a ∧ sk T n a ≤ n := skF_in _ a h
theorem skF_end {T : Int → Int} {n : Int} : ∀ (k : Nat) (a : Int), n - a ≤ k → ¬ (skF T n k a < n ∧ T (skF T n k a) = 32) := by
  intro k
  induction k with
  | zero => intro a h h2; simp only [skF] at h2; omega
  | succ k ih =>
    intro a h
    rw [skF]
    split
    · next h2 => exact ih (a + 1) (by omega)
    · next h2 => exact h2
theorem sk_end {T : Int → Int} {n a : Int} : ¬ (sk T n a < n ∧ T (sk T n a) = 32) := skF_end _ a (by omega)
theorem sk_idem {T : Int → Int} {n a : Int} : sk T n (sk T n a) = sk T n a := sk_stop sk_end
/-- a byte of the TAPE -/
abbrev okT (T : Int → Int) (n : Int) : Prop := 0 ≤ n ∧ n ≤ 160 ∧ ∀ j, 0 ≤ j → j < n → 1 ≤ T j ∧ T j ≤ 255
/-- a number of so many digits at most -/
def numF (T : Int → Int) (n dg st : Int) : Nat → Int → Int → Int ⊕ (Int × Int)
  | 0, a, v => .inr (a, v)
  | k + 1, a, v => if a < n ∧ 48 ≤ T a ∧ T a ≤ 57 then (if dg ≤ a - st then .inl a else numF T n dg st k (a + 1) (v * 10 + T a - 48)) else .inr (a, v)
def numE (lo hi : Int) (r : Int ⊕ (Int × Int)) : Int ⊕ (Int × Int) := match r with
  | .inl f => .inl f
  | .inr (a, v) => if v < lo ∨ hi < v then .inl (a - 1) else .inr (a, v)
def pNum (T : Int → Int) (n dg lo hi a : Int) : Int ⊕ (Int × Int) :=
  if 48 ≤ ch T n (sk T n a) ∧ ch T n (sk T n a) ≤ 57 then numE lo hi (numF T n dg (sk T n a) 6 (sk T n a) 0) else .inl (sk T n a)
end pt_09spec
/- 09.spec2.lean.txt -/
section pt_09spec2
/-! A TOWN's TEXT -/
def itemOf (c : Int) : Int := if c = 98 then 0 else if c = 100 then 1 else if c = 107 then 2 else if c = 102 then 3 else if c = 104 then 4 else -1
def pIt (T : Int → Int) (n : Int) (ofP : Bool) : Nat → Int → Int → (Int → Int) → Int ⊕ (Int × (Int → Int))
  | 0, _, a, _ => .inl a
  | k + 1, seen, a, r =>
    if itemOf (ch T n (sk T n a)) = -1 then .inr (sk T n a, r)
    else if (ofP = false ∧ itemOf (ch T n (sk T n a)) ≠ 0) ∨ zAnd (zShr seen (itemOf (ch T n (sk T n a)))) 1 ≠ 0 then .inl (sk T n a)
    else match pNum T n 2 (gTL (itemOf (ch T n (sk T n a)))) (gTM (itemOf (ch T n (sk T n a)))) (sk T n a + 1) with
      | .inl f => .inl f
      | .inr q => pIt T n ofP k (zOr seen (zShl 1 (itemOf (ch T n (sk T n a))))) q.1 (uZ r (itemOf (ch T n (sk T n a))) q.2)
abbrev TS : Type := Int × Int × Int × (Int → Int → Int)
def row0 : Int → Int := fun j => if j = 0 then 60 else if j = 3 then -1 else if j = 4 then 5 else 0
def pCl (T : Int → Int) (n a : Int) (s : TS) : Int ⊕ (Int × TS) :=
  if ch T n (sk T n a) = 112 ∧ s.1 < 6 then
    match pIt T n true 6 0 (sk T n a + 1) row0 with
    | .inl f => .inl f
    | .inr q => .inr (q.1, (s.1 + 1, s.2.1, s.2.2.1, uZ s.2.2.2 s.1 q.2))
  else if ch T n (sk T n a) = 109 ∧ s.2.2.1 = 0 then
    match pIt T n false 6 0 (sk T n a + 1) (fun _ => s.2.1) with
    | .inl f => .inl f
    | .inr q => .inr (q.1, (s.1, q.2 0, 1, s.2.2.2))
  else .inl (sk T n a)
def pTnL (T : Int → Int) (n : Int) : Nat → Int → TS → Int ⊕ (Int × TS)
  | 0, a, s => .inr (a, s)
  | k + 1, a, s =>
    match pCl T n a s with
    | .inl f => .inl f
    | .inr q =>
      if ch T n (sk T n q.1) = 0 then .inr (sk T n q.1, q.2)
      else if ch T n (sk T n q.1) = 59 then pTnL T n k (sk T n q.1 + 1) q.2
      else .inl (sk T n q.1)
/-- whom each follows is told, and not itself; there is a player -/
def okTn (s : TS) : Prop := 0 < s.1 ∧ ∀ i, 0 ≤ i → i < s.1 → s.2.2.2 i 3 ≠ i ∧ s.2.2.2 i 3 < s.1
theorem numF_in {T : Int → Int} {n dg st : Int} : ∀ (k : Nat) (a v : Int), a ≤ n → (∀ f, numF T n dg st k a v = .inl f → a ≤ f ∧ f < n) ∧ (∀ q, numF T n dg st k a v = .inr q → a ≤ q.1 ∧ q.1 ≤ n) := by
  intro k
  induction k with
  | zero =>
    intro a v h
    refine ⟨fun f hf => (by cases hf), fun q hq => ?_⟩
    cases hq
    exact ⟨Int.le_refl _, h⟩
  | succ k ih =>
    intro a v h
    rw [numF]
    split
    · next h2 =>
      split
      · refine ⟨fun f hf => ?_, fun q hq => (by cases hq)⟩
        cases hf
        omega
      · have h3 := ih (a + 1) (v * 10 + T a - 48) (by omega)
        exact ⟨fun f hf => by have := h3.1 f hf; omega, fun q hq => by have := h3.2 q hq; omega⟩
    · refine ⟨fun f hf => (by cases hf), fun q hq => ?_⟩
      cases hq
      exact ⟨Int.le_refl _, h⟩
/-- the first digit is read -/
theorem numF_first {T : Int → Int} {n dg st : Int} {k : Nat} {a v : Int} (hd : 0 < dg) (h : a < n ∧ 48 ≤ T a ∧ T a ≤ 57) (hs : st = a) : numF T n dg st (k + 1) a v = numF T n dg st k (a + 1) (v * 10 + T a - 48) := by
  rw [numF, if_pos h, if_neg (by omega)]
theorem pNum_in {T : Int → Int} {n dg lo hi a : Int} (ha : a ≤ n) (hd : 0 < dg) (hn : n ≤ 160) (h0 : 0 ≤ a) :
    (∀ f, pNum T n dg lo hi a = .inl f → a ≤ f ∧ f ≤ n) ∧ (∀ q, pNum T n dg lo hi a = .inr q → a < q.1 ∧ q.1 ≤ n ∧ lo ≤ q.2 ∧ q.2 ≤ hi) := by
  have h1 := sk_in (T := T) ha
  unfold pNum
  split
  · next h2 =>
    have h3 : sk T n a < n ∧ 48 ≤ T (sk T n a) ∧ T (sk T n a) ≤ 57 := by
      unfold ch at h2
      split at h2 <;> omega
    have h4 := numF_in (T := T) (dg := dg) (st := sk T n a) 5 (sk T n a + 1) (0 * 10 + T (sk T n a) - 48) (by omega : sk T n a + 1 ≤ n)
    rw [numF_first hd h3 rfl]
    cases hr : numF T n dg (sk T n a) 5 (sk T n a + 1) (0 * 10 + T (sk T n a) - 48) with
    | inl f =>
      have := h4.1 f hr
      refine ⟨fun f' hf => ?_, fun q hq => (by cases hq)⟩
      cases hf
      omega
    | inr q =>
      have := h4.2 q hr
      rw [numE]
      split
      · refine ⟨fun f' hf => ?_, fun q' hq => (by cases hq)⟩
        cases hf
        omega
      · refine ⟨fun f' hf => (by cases hf), fun q' hq => ?_⟩
        cases hq
        exact ⟨by show _ < q.1; omega, by show q.1 ≤ _; omega, by show _ ≤ q.2; omega, by show q.2 ≤ _; omega⟩
  · refine ⟨fun f' hf => ?_, fun q' hq => (by cases hq)⟩
    cases hf
    omega
theorem itemOf_in (c : Int) : itemOf c = -1 ∨ (0 ≤ itemOf c ∧ itemOf c ≤ 4) := by
  unfold itemOf
  split
  · right; decide
  · split
    · right; decide
    · split
      · right; decide
      · split
        · right; decide
        · split
          · right; decide
          · left; rfl
/-- what a row of items may hold -/
def okRow (r : Int → Int) : Prop := (1 ≤ r 0 ∧ r 0 ≤ 99) ∧ (0 ≤ r 1 ∧ r 1 ≤ 9) ∧ (0 ≤ r 2 ∧ r 2 ≤ 3) ∧ (-1 ≤ r 3 ∧ r 3 ≤ 5) ∧ (0 ≤ r 4 ∧ r 4 ≤ 10)
theorem okRow_put {r : Int → Int} {i v : Int} (h : okRow r) (hi : 0 ≤ i ∧ i ≤ 4) (hv : gTL i ≤ v ∧ v ≤ gTM i) : okRow (uZ r i v) := by
  obtain ⟨h0, h1, h2, h3, h4⟩ := h
  rcases (by omega : i = 0 ∨ i = 1 ∨ i = 2 ∨ i = 3 ∨ i = 4) with rfl | rfl | rfl | rfl | rfl <;>
    simp only [gTL, gTM, uZ, okRow] at * <;> simp at hv ⊢ <;> omega
theorem pIt_in {T : Int → Int} {n : Int} {ofP : Bool} (hn : n ≤ 160) : ∀ (k : Nat) (seen a : Int) (r : Int → Int), 0 ≤ a → a ≤ n → okRow r →
    (∀ f, pIt T n ofP k seen a r = .inl f → a ≤ f ∧ f ≤ n) ∧ (∀ q, pIt T n ofP k seen a r = .inr q → a ≤ q.1 ∧ q.1 ≤ n ∧ okRow q.2) := by
  intro k
  induction k with
  | zero =>
    intro seen a r h0 ha hr
    refine ⟨fun f hf => ?_, fun q hq => (by cases hq)⟩
    cases hf
    omega
  | succ k ih =>
    intro seen a r h0 ha hr
    have h1 := sk_in (T := T) ha
    rw [pIt]
    split
    · refine ⟨fun f hf => (by cases hf), fun q hq => ?_⟩
      cases hq
      exact ⟨h1.1, h1.2, hr⟩
    · next hi =>
      split
      · refine ⟨fun f hf => ?_, fun q hq => (by cases hq)⟩
        cases hf
        omega
      · have hit : 0 ≤ itemOf (ch T n (sk T n a)) ∧ itemOf (ch T n (sk T n a)) ≤ 4 := (itemOf_in _).resolve_left hi
        have hlt : sk T n a < n := by
          rcases Int.lt_or_le (sk T n a) n with q | q
          · exact q
          · exfalso
            apply hi
            unfold ch
            rw [if_neg (by omega)]
            rfl
        have h2 := pNum_in (T := T) (n := n) (dg := 2) (lo := gTL (itemOf (ch T n (sk T n a)))) (hi := gTM (itemOf (ch T n (sk T n a)))) (a := sk T n a + 1) (by omega) (by decide) hn (by omega)
        cases hp : pNum T n 2 (gTL (itemOf (ch T n (sk T n a)))) (gTM (itemOf (ch T n (sk T n a)))) (sk T n a + 1) with
        | inl f =>
          refine ⟨fun f' hf => ?_, fun q hq => (by cases hq)⟩
          cases hf
          have := h2.1 f hp
          omega
        | inr q =>
          have h3 := h2.2 q hp
          have h4 := ih (zOr seen (zShl 1 (itemOf (ch T n (sk T n a))))) q.1 (uZ r (itemOf (ch T n (sk T n a))) q.2) (by omega) h3.2.1 (okRow_put hr hit h3.2.2)
          exact ⟨fun f hf => by have := h4.1 f hf; omega, fun q' hq => by have := h4.2 q' hq; exact ⟨by omega, this.2⟩⟩
theorem okRow_row0 : okRow row0 := by unfold okRow row0; decide
end pt_09spec2
/- 09.spec3.lean.txt -/
section pt_09spec3
/-! A LAW's TEXT: its signs in the order in which they are worked out (numbers as they are, all others below 0); k: how many levels of ( [ ! are left -/
abbrev LR : Type := Int ⊕ (Int × List Int)
def atomG (T : Int → Int) (n : Int) (nx : Int → LR) (k : Nat) (a : Int) : LR :=
  if 48 ≤ ch T n (sk T n a) ∧ ch T n (sk T n a) ≤ 57 then
    match pNum T n 4 0 9999 (sk T n a) with
    | .inl f => .inl f
    | .inr q => .inr (q.1, [q.2])
  else if ch T n (sk T n a) = 100 ∨ ch T n (sk T n a) = 119 ∨ ch T n (sk T n a) = 109 ∨ ch T n (sk T n a) = 110 ∨ ch T n (sk T n a) = 111 then .inr (sk T n a + 1, [-ch T n (sk T n a)])
  else if ch T n (sk T n a) = 91 ∧ k ≠ 0 then
    match nx (sk T n a + 1) with
    | .inl f => .inl f
    | .inr q => if ch T n (sk T n q.1) = 93 then .inr (sk T n q.1 + 1, q.2) else .inl (sk T n q.1)
  else .inl (sk T n a)
def isAdd (c : Int) : Prop := c = 43 ∨ c = 45
def sumL (T : Int → Int) (n : Int) (atom : Int → LR) : Nat → Int → Int → List Int → LR
  | 0, _, a, _ => .inl a
  | f + 1, w, a, acc =>
    if ch T n (sk T n a) = 43 ∨ ch T n (sk T n a) = 45 then
      match atom (sk T n a + 1) with
      | .inl g => .inl g
      | .inr q => sumL T n atom f (ch T n (sk T n a)) q.1 ((if w = 0 then acc else acc ++ [-w]) ++ q.2)
    else if ch T n (sk T n a) = 42 ∨ ch T n (sk T n a) = 47 then
      match atom (sk T n a + 1) with
      | .inl g => .inl g
      | .inr q => sumL T n atom f w q.1 (acc ++ q.2 ++ [-ch T n (sk T n a)])
    else .inr (sk T n a, if w = 0 then acc else acc ++ [-w])
def sumG (T : Int → Int) (n : Int) (atom : Int → LR) (a : Int) : LR :=
  match atom a with
  | .inl f => .inl f
  | .inr q => sumL T n atom 161 0 q.1 q.2
def pSum (T : Int → Int) (n : Int) : Nat → Int → LR
  | 0 => sumG T n (atomG T n (fun _ => .inl 0) 0)
  | k + 1 => sumG T n (atomG T n (pSum T n k) (k + 1))
def pAtom (T : Int → Int) (n : Int) (k : Nat) : Int → LR := match k with
  | 0 => atomG T n (fun _ => .inl 0) 0
  | k + 1 => atomG T n (pSum T n k) (k + 1)
theorem pSum_eq (T : Int → Int) (n : Int) (k : Nat) : pSum T n k = sumG T n (pAtom T n k) := by cases k <;> rfl
def isCmp (c : Int) : Prop := c = 61 ∨ c = 60 ∨ c = 62
def cmpG (T : Int → Int) (n : Int) (k : Nat) (a : Int) : LR :=
  if ch T n (sk T n a) = 61 ∨ ch T n (sk T n a) = 60 ∨ ch T n (sk T n a) = 62 then
    match pSum T n k (sk T n a + 1) with
    | .inl f => .inl f
    | .inr q => .inr (q.1, q.2 ++ [-ch T n (sk T n a)])
  else .inl (sk T n a)
def unitG (T : Int → Int) (n : Int) (co un : Int → LR) (k : Nat) (a : Int) : LR :=
  if ch T n (sk T n a) ≠ 33 ∧ ch T n (sk T n a) ≠ 40 then
    match pSum T n k (sk T n a) with
    | .inl f => .inl f
    | .inr q =>
      match cmpG T n k q.1 with
      | .inl f => .inl f
      | .inr r => .inr (r.1, q.2 ++ r.2)
  else if k = 0 then .inl (sk T n a)
  else if ch T n (sk T n a) = 33 then
    match un (sk T n a + 1) with
    | .inl f => .inl f
    | .inr q => .inr (q.1, q.2 ++ [-33])
  else
    match co (sk T n a + 1) with
    | .inl f => .inl f
    | .inr q => if ch T n (sk T n q.1) = 41 then .inr (sk T n q.1 + 1, q.2) else .inl (sk T n q.1)
def moreL (T : Int → Int) (n : Int) (unit : Int → LR) : Nat → Bool → Int → List Int → LR
  | 0, _, a, _ => .inl a
  | f + 1, w, a, acc =>
    if ch T n (sk T n a) = 124 then
      match unit (sk T n a + 1) with
      | .inl g => .inl g
      | .inr q => moreL T n unit f true q.1 ((if w then acc ++ [-124] else acc) ++ q.2)
    else if ch T n (sk T n a) = 38 then
      match unit (sk T n a + 1) with
      | .inl g => .inl g
      | .inr q => moreL T n unit f w q.1 (acc ++ q.2 ++ [-38])
    else .inr (sk T n a, if w then acc ++ [-124] else acc)
def condG (T : Int → Int) (n : Int) (unit : Int → LR) (a : Int) : LR :=
  match unit a with
  | .inl f => .inl f
  | .inr q => moreL T n unit 161 false q.1 q.2
def pUnit (T : Int → Int) (n : Int) : Nat → Int → LR
  | 0 => unitG T n (fun _ => .inl 0) (fun _ => .inl 0) 0
  | k + 1 => unitG T n (condG T n (pUnit T n k)) (pUnit T n k) (k + 1)
def pCond (T : Int → Int) (n : Int) (k : Nat) : Int → LR := condG T n (pUnit T n k)
def sumB (T : Int → Int) (n a : Int) (acc : List Int) : LR :=
  if ch T n (sk T n a) = 63 then
    match pSum T n 6 (sk T n a + 1) with
    | .inl f => .inl f
    | .inr q => .inr (q.1, acc ++ [-63] ++ q.2 ++ [-59])
  else .inl (sk T n a)
def pLawC (T : Int → Int) (n a : Int) : LR :=
  if ch T n (sk T n a) = 121 then
    if ch T n (sk T n (sk T n a + 1)) = 58 then
      if ch T n (sk T n (sk T n (sk T n a + 1) + 1)) = 33 ∨ ch T n (sk T n (sk T n (sk T n a + 1) + 1)) = 40 then
        match pCond T n 6 (sk T n (sk T n (sk T n a + 1) + 1)) with
        | .inl f => .inl f
        | .inr q => sumB T n q.1 q.2
      else
        match pSum T n 6 (sk T n (sk T n (sk T n a + 1) + 1)) with
        | .inl f => .inl f
        | .inr q =>
          if ch T n (sk T n q.1) = 61 ∨ ch T n (sk T n q.1) = 60 ∨ ch T n (sk T n q.1) = 62 then
            match cmpG T n 6 (sk T n q.1) with
            | .inl f => .inl f
            | .inr r =>
              match moreL T n (pUnit T n 6) 161 false r.1 (q.2 ++ r.2) with
              | .inl f => .inl f
              | .inr t => sumB T n t.1 t.2
          else .inr (sk T n q.1, q.2 ++ [-59])
    else .inl (sk T n (sk T n a + 1))
  else .inl (sk T n a)
def pLawL (T : Int → Int) (n : Int) : Nat → Int → List Int → LR
  | 0, a, acc => .inr (a, acc)
  | k + 1, a, acc =>
    match pLawC T n a with
    | .inl f => .inl f
    | .inr q =>
      if ch T n (sk T n q.1) = 0 then .inr (sk T n q.1, acc ++ q.2)
      else if ch T n (sk T n q.1) = 59 then pLawL T n k (sk T n q.1 + 1) (acc ++ q.2)
      else .inl (sk T n q.1)
/-- where a reading may end, and that it tells no more signs than it read -/
def okLR (n a : Int) (r : LR) : Prop := (∀ f, r = .inl f → 0 ≤ f ∧ f ≤ n) ∧ (∀ q, r = .inr q → a < q.1 ∧ q.1 ≤ n ∧ (q.2.length : Int) ≤ q.1 - a ∧ 0 < q.2.length ∧ ∀ t ∈ q.2, -200 ≤ t ∧ t ≤ 9999)
theorem okLR_l {n a f : Int} (h : 0 ≤ f ∧ f ≤ n) : okLR n a (.inl f) := ⟨fun f' e => (by cases e; exact h), fun q e => (by cases e)⟩
theorem okLR_r {n a b : Int} {ts : List Int} (h : a < b ∧ b ≤ n ∧ (ts.length : Int) ≤ b - a ∧ 0 < ts.length ∧ ∀ t ∈ ts, -200 ≤ t ∧ t ≤ 9999) : okLR n a (.inr (b, ts)) := ⟨fun f' e => (by cases e), fun q e => (by cases e; exact h)⟩
theorem ch_lt {T : Int → Int} {n a : Int} (h : ch T n a ≠ 0) : a < n := by
  rcases Int.lt_or_le a n with q | q
  · exact q
  · exfalso; apply h; unfold ch; rw [if_neg (by omega)]
theorem ok_one {t : Int} (h : -200 ≤ t ∧ t ≤ 9999) : ∀ x ∈ [t], -200 ≤ x ∧ x ≤ 9999 := fun x hx => by rw [List.mem_singleton.mp hx]; exact h
theorem ok_app {a b : List Int} (ha : ∀ x ∈ a, -200 ≤ x ∧ x ≤ 9999) (hb : ∀ x ∈ b, -200 ≤ x ∧ x ≤ 9999) : ∀ x ∈ a ++ b, -200 ≤ x ∧ x ≤ 9999 := fun x hx => (List.mem_append.mp hx).elim (ha x) (hb x)
theorem atomG_ok {T : Int → Int} {n : Int} {nx : Int → LR} {k : Nat} (hn : n ≤ 160) (hx : k ≠ 0 → ∀ a, 0 ≤ a → a ≤ n → okLR n a (nx a)) (a : Int) (h0 : 0 ≤ a) (ha : a ≤ n) : okLR n a (atomG T n nx k a) := by
  have h1 := sk_in (T := T) ha
  unfold atomG
  split
  · have h2 := pNum_in (T := T) (n := n) (dg := 4) (lo := 0) (hi := 9999) (a := sk T n a) h1.2 (by decide) hn (by omega)
    cases hp : pNum T n 4 0 9999 (sk T n a) with
    | inl f => have := h2.1 f hp; exact okLR_l ⟨by omega, by omega⟩
    | inr q => have := h2.2 q hp; exact okLR_r ⟨by omega, by omega, by simp only [List.length_singleton]; omega, by simp, ok_one (by omega)⟩
  · split
    · next h2 =>
      have h3 : sk T n a < n := ch_lt (T := T) (by omega)
      exact okLR_r ⟨by omega, by omega, by simp only [List.length_singleton]; omega, by simp, ok_one (by omega)⟩
    · split
      · next h2 =>
        have h3 : sk T n a < n := ch_lt (T := T) (by omega)
        have h4 := hx h2.2 (sk T n a + 1) (by omega) (by omega)
        cases hp : nx (sk T n a + 1) with
        | inl f => exact okLR_l (h4.1 f hp)
        | inr q =>
          have h5 := h4.2 q hp
          have h6 := sk_in (T := T) h5.2.1
          show okLR n a (if ch T n (sk T n q.1) = 93 then .inr (sk T n q.1 + 1, q.2) else .inl (sk T n q.1))
          split
          · next h7 =>
            have h8 : sk T n q.1 < n := ch_lt (T := T) (by omega)
            exact okLR_r ⟨by omega, by omega, by omega, h5.2.2.2.1, h5.2.2.2.2⟩
          · exact okLR_l ⟨by omega, by omega⟩
      · exact okLR_l ⟨by omega, by omega⟩
theorem sumL_ok {T : Int → Int} {n a0 : Int} {atom : Int → LR} (hx : ∀ a, 0 ≤ a → a ≤ n → okLR n a (atom a)) (h00 : 0 ≤ a0) : ∀ (f : Nat) (w a : Int) (acc : List Int), a0 < a → a ≤ n → (acc.length : Int) + (if w = 0 then 0 else 1) ≤ a - a0 → 0 < acc.length → (∀ t ∈ acc, -200 ≤ t ∧ t ≤ 9999) → (w = 0 ∨ w = 43 ∨ w = 45) → okLR n a0 (sumL T n atom f w a acc) := by
  intro f
  induction f with
  | zero => intro w a acc h1 h2 h3 h4 h5 h6; exact okLR_l ⟨by omega, h2⟩
  | succ f ih =>
    intro w a acc h1 h2 h3 h4 h5 h6
    have k1 := sk_in (T := T) h2
    rw [sumL]
    split
    · next k2 =>
      have k3 : sk T n a < n := ch_lt (T := T) (by omega)
      have k4 := hx (sk T n a + 1) (by omega) (by omega)
      cases hp : atom (sk T n a + 1) with
      | inl g => exact okLR_l (k4.1 g hp)
      | inr q =>
        have k5 := k4.2 q hp
        refine ih _ _ _ (by omega) k5.2.1 ?_ ?_ ?_ (Or.inr k2)
        · rw [if_neg (show ¬ ch T n (sk T n a) = 0 by omega)]
          split at h3
          · next e => rw [if_pos e]; simp only [List.length_append]; omega
          · next e => rw [if_neg e]; simp only [List.length_append, List.length_singleton]; omega
        · simp only [List.length_append]; omega
        · refine ok_app ?_ k5.2.2.2.2
          split
          · exact h5
          · exact ok_app h5 (ok_one (by omega))
    · split
      · next k2 =>
        have k3 : sk T n a < n := ch_lt (T := T) (by omega)
        have k4 := hx (sk T n a + 1) (by omega) (by omega)
        cases hp : atom (sk T n a + 1) with
        | inl g => exact okLR_l (k4.1 g hp)
        | inr q =>
          have k5 := k4.2 q hp
          refine ih _ _ _ (by omega) k5.2.1 ?_ ?_ ?_ h6
          · simp only [List.length_append, List.length_singleton]; omega
          · simp only [List.length_append]; omega
          · exact ok_app (ok_app h5 k5.2.2.2.2) (ok_one (by omega))
      · split at h3
        · next e => rw [if_pos e]; exact okLR_r ⟨by omega, by omega, by omega, h4, h5⟩
        · next e => rw [if_neg e]; exact okLR_r ⟨by omega, by omega, by simp only [List.length_append, List.length_singleton]; omega, by simp, ok_app h5 (ok_one (by omega))⟩
theorem sumG_ok {T : Int → Int} {n : Int} {atom : Int → LR} (hx : ∀ a, 0 ≤ a → a ≤ n → okLR n a (atom a)) (a : Int) (h0 : 0 ≤ a) (ha : a ≤ n) : okLR n a (sumG T n atom a) := by
  unfold sumG
  have h1 := hx a h0 ha
  cases hp : atom a with
  | inl f => exact okLR_l (h1.1 f hp)
  | inr q =>
    have h2 := h1.2 q hp
    exact sumL_ok hx h0 161 0 q.1 q.2 h2.1 h2.2.1 (by rw [if_pos rfl]; omega) h2.2.2.2.1 h2.2.2.2.2 (Or.inl rfl)
theorem pAS_ok {T : Int → Int} {n : Int} (hn : n ≤ 160) : ∀ (k : Nat), (∀ a, 0 ≤ a → a ≤ n → okLR n a (pAtom T n k a)) ∧ (∀ a, 0 ≤ a → a ≤ n → okLR n a (pSum T n k a)) := by
  intro k
  induction k with
  | zero =>
    have h1 : ∀ a, 0 ≤ a → a ≤ n → okLR n a (pAtom T n 0 a) := fun a h0 ha => (atomG_ok hn (fun h => absurd rfl h) a h0 ha : okLR n a (atomG T n (fun _ => .inl 0) 0 a))
    exact ⟨h1, fun a h0 ha => by rw [pSum_eq]; exact sumG_ok h1 a h0 ha⟩
  | succ k ih =>
    have h1 : ∀ a, 0 ≤ a → a ≤ n → okLR n a (pAtom T n (k + 1) a) := fun a h0 ha => (atomG_ok hn (fun _ => ih.2) a h0 ha : okLR n a (atomG T n (pSum T n k) (k + 1) a))
    exact ⟨h1, fun a h0 ha => by rw [pSum_eq]; exact sumG_ok h1 a h0 ha⟩
theorem cmpG_ok {T : Int → Int} {n : Int} (hn : n ≤ 160) (k : Nat) (a : Int) (h0 : 0 ≤ a) (ha : a ≤ n) : okLR n a (cmpG T n k a) := by
  have h1 := sk_in (T := T) ha
  unfold cmpG
  split
  · next h2 =>
    have h3 : sk T n a < n := ch_lt (T := T) (by omega)
    have h4 := (pAS_ok (T := T) hn k).2 (sk T n a + 1) (by omega) (by omega)
    cases hp : pSum T n k (sk T n a + 1) with
    | inl f => exact okLR_l (h4.1 f hp)
    | inr q =>
      have h5 := h4.2 q hp
      exact okLR_r ⟨by omega, by omega, by simp only [List.length_append, List.length_singleton]; omega, by simp, ok_app h5.2.2.2.2 (ok_one (by omega))⟩
  · exact okLR_l ⟨by omega, by omega⟩
theorem unitG_ok {T : Int → Int} {n : Int} {co un : Int → LR} {k : Nat} (hn : n ≤ 160) (hc : k ≠ 0 → ∀ a, 0 ≤ a → a ≤ n → okLR n a (co a)) (hu : k ≠ 0 → ∀ a, 0 ≤ a → a ≤ n → okLR n a (un a)) (a : Int) (h0 : 0 ≤ a) (ha : a ≤ n) : okLR n a (unitG T n co un k a) := by
  have h1 := sk_in (T := T) ha
  unfold unitG
  split
  · have h4 := (pAS_ok (T := T) hn k).2 (sk T n a) (by omega) (by omega)
    cases hp : pSum T n k (sk T n a) with
    | inl f => exact okLR_l (h4.1 f hp)
    | inr q =>
      have h5 := h4.2 q hp
      have h6 := cmpG_ok (T := T) hn k q.1 (by omega) h5.2.1
      show okLR n a (match cmpG T n k q.1 with | .inl f => .inl f | .inr r => .inr (r.1, q.2 ++ r.2))
      cases hq : cmpG T n k q.1 with
      | inl f => exact okLR_l (h6.1 f hq)
      | inr r =>
        have h7 := h6.2 r hq
        exact okLR_r ⟨by omega, by omega, by simp only [List.length_append]; omega, by simp only [List.length_append]; omega, ok_app h5.2.2.2.2 h7.2.2.2.2⟩
  · next h2 =>
    have h3 : sk T n a < n := ch_lt (T := T) (by intro e; apply h2; omega)
    split
    · exact okLR_l ⟨by omega, by omega⟩
    · next hk =>
      split
      · have h4 := hu hk (sk T n a + 1) (by omega) (by omega)
        cases hp : un (sk T n a + 1) with
        | inl f => exact okLR_l (h4.1 f hp)
        | inr q =>
          have h5 := h4.2 q hp
          exact okLR_r ⟨by omega, by omega, by simp only [List.length_append, List.length_singleton]; omega, by simp, ok_app h5.2.2.2.2 (ok_one (by omega))⟩
      · have h4 := hc hk (sk T n a + 1) (by omega) (by omega)
        cases hp : co (sk T n a + 1) with
        | inl f => exact okLR_l (h4.1 f hp)
        | inr q =>
          have h5 := h4.2 q hp
          have h6 := sk_in (T := T) h5.2.1
          show okLR n a (if ch T n (sk T n q.1) = 41 then .inr (sk T n q.1 + 1, q.2) else .inl (sk T n q.1))
          split
          · next h7 =>
            have h8 : sk T n q.1 < n := ch_lt (T := T) (by omega)
            exact okLR_r ⟨by omega, by omega, by omega, h5.2.2.2.1, h5.2.2.2.2⟩
          · exact okLR_l ⟨by omega, by omega⟩
theorem moreL_ok {T : Int → Int} {n a0 : Int} {unit : Int → LR} (hx : ∀ a, 0 ≤ a → a ≤ n → okLR n a (unit a)) (h00 : 0 ≤ a0) : ∀ (f : Nat) (w : Bool) (a : Int) (acc : List Int), a0 < a → a ≤ n → (acc.length : Int) + (if w then 1 else 0) ≤ a - a0 → 0 < acc.length → (∀ t ∈ acc, -200 ≤ t ∧ t ≤ 9999) → okLR n a0 (moreL T n unit f w a acc) := by
  intro f
  induction f with
  | zero => intro w a acc h1 h2 h3 h4 h5; exact okLR_l ⟨by omega, h2⟩
  | succ f ih =>
    intro w a acc h1 h2 h3 h4 h5
    have k1 := sk_in (T := T) h2
    rw [moreL]
    split
    · next k2 =>
      have k3 : sk T n a < n := ch_lt (T := T) (by omega)
      have k4 := hx (sk T n a + 1) (by omega) (by omega)
      cases hp : unit (sk T n a + 1) with
      | inl g => exact okLR_l (k4.1 g hp)
      | inr q =>
        have k5 := k4.2 q hp
        refine ih _ _ _ (by omega) k5.2.1 ?_ ?_ ?_
        · cases w <;> simp at h3 ⊢ <;> omega
        · simp only [List.length_append]; omega
        · refine ok_app ?_ k5.2.2.2.2
          cases w
          · exact h5
          · exact ok_app h5 (ok_one (by decide))
    · split
      · next k2 =>
        have k3 : sk T n a < n := ch_lt (T := T) (by omega)
        have k4 := hx (sk T n a + 1) (by omega) (by omega)
        cases hp : unit (sk T n a + 1) with
        | inl g => exact okLR_l (k4.1 g hp)
        | inr q =>
          have k5 := k4.2 q hp
          refine ih _ _ _ (by omega) k5.2.1 ?_ ?_ ?_
          · simp only [List.length_append, List.length_singleton]; omega
          · simp only [List.length_append]; omega
          · exact ok_app (ok_app h5 k5.2.2.2.2) (ok_one (by decide))
      · cases w
        · exact okLR_r ⟨by omega, by omega, by simp at h3; show (acc.length : Int) ≤ _; omega, h4, h5⟩
        · refine okLR_r ⟨by omega, by omega, ?_, by simp, ok_app h5 (ok_one (by decide))⟩
          simp at h3 ⊢
          omega
theorem condG_ok {T : Int → Int} {n : Int} {unit : Int → LR} (hx : ∀ a, 0 ≤ a → a ≤ n → okLR n a (unit a)) (a : Int) (h0 : 0 ≤ a) (ha : a ≤ n) : okLR n a (condG T n unit a) := by
  unfold condG
  have h1 := hx a h0 ha
  cases hp : unit a with
  | inl f => exact okLR_l (h1.1 f hp)
  | inr q =>
    have h2 := h1.2 q hp
    exact moreL_ok hx h0 161 false q.1 q.2 h2.1 h2.2.1 (by simp; omega) h2.2.2.2.1 h2.2.2.2.2
theorem pUnit_ok {T : Int → Int} {n : Int} (hn : n ≤ 160) : ∀ (k : Nat) (a : Int), 0 ≤ a → a ≤ n → okLR n a (pUnit T n k a) := by
  intro k
  induction k with
  | zero => intro a h0 ha; exact unitG_ok hn (fun h => absurd rfl h) (fun h => absurd rfl h) a h0 ha
  | succ k ih => intro a h0 ha; exact unitG_ok hn (fun _ => condG_ok ih) (fun _ => ih) a h0 ha
theorem pCond_ok {T : Int → Int} {n : Int} (hn : n ≤ 160) (k : Nat) (a : Int) (h0 : 0 ≤ a) (ha : a ≤ n) : okLR n a (pCond T n k a) := condG_ok (pUnit_ok hn k) a h0 ha
end pt_09spec3
/- 09.spec4.lean.txt -/
section pt_09spec4
/-! The same readings as chains of chains: a row of parts joined by two signs, of which each sign stands behind its part -/
def loopL (T : Int → Int) (n u v : Int) (p : Int → LR) : Nat → Int → List Int → LR
  | 0, a, _ => .inl a
  | f + 1, a, acc =>
    if ch T n (sk T n a) = u ∨ ch T n (sk T n a) = v then
      match p (sk T n a + 1) with
      | .inl g => .inl g
      | .inr q => loopL T n u v p f q.1 (acc ++ q.2 ++ [-ch T n (sk T n a)])
    else .inr (sk T n a, acc)
def seqG (T : Int → Int) (n u v : Int) (p : Int → LR) (a : Int) : LR :=
  match p a with
  | .inl g => .inl g
  | .inr q => loopL T n u v p 161 q.1 q.2
def twoL (T : Int → Int) (n x y u v : Int) (p : Int → LR) : Nat → Int → Int → List Int → LR
  | 0, _, a, _ => .inl a
  | f + 1, w, a, acc =>
    if ch T n (sk T n a) = x ∨ ch T n (sk T n a) = y then
      match p (sk T n a + 1) with
      | .inl g => .inl g
      | .inr q => twoL T n x y u v p f (ch T n (sk T n a)) q.1 ((if w = 0 then acc else acc ++ [-w]) ++ q.2)
    else if ch T n (sk T n a) = u ∨ ch T n (sk T n a) = v then
      match p (sk T n a + 1) with
      | .inl g => .inl g
      | .inr q => twoL T n x y u v p f w q.1 (acc ++ q.2 ++ [-ch T n (sk T n a)])
    else .inr (sk T n a, if w = 0 then acc else acc ++ [-w])
def goesOn (n : Int) (p : Int → LR) : Prop := ∀ a, 0 ≤ a → a ≤ n → ∀ q, p a = .inr q → a < q.1 ∧ q.1 ≤ n
theorem twoL_fuel {T : Int → Int} {n x y u v : Int} {p : Int → LR} (hx : x ≠ 0 ∧ y ≠ 0 ∧ u ≠ 0 ∧ v ≠ 0) (hp : goesOn n p) : ∀ (f g : Nat) (w a : Int) (acc : List Int), 0 ≤ a → a ≤ n → n - a < f → n - a < g → twoL T n x y u v p f w a acc = twoL T n x y u v p g w a acc := by
  intro f
  induction f with
  | zero => intro g w a acc h0 ha hf hg; exfalso; omega
  | succ f ih =>
    intro g w a acc h0 ha hf hg
    obtain ⟨g, rfl⟩ : ∃ g' : Nat, g = g' + 1 := ⟨g - 1, by omega⟩
    have h1 := sk_in (T := T) ha
    unfold twoL
    split
    · next h2 =>
      have h3 : sk T n a < n := ch_lt (T := T) (by omega)
      cases hq : p (sk T n a + 1) with
      | inl e => rfl
      | inr q => have := hp _ (by omega) (by omega) q hq; exact ih g _ q.1 _ (by omega) (by omega) (by omega) (by omega)
    · split
      · next h2 =>
        have h3 : sk T n a < n := ch_lt (T := T) (by omega)
        cases hq : p (sk T n a + 1) with
        | inl e => rfl
        | inr q => have := hp _ (by omega) (by omega) q hq; exact ih g _ q.1 _ (by omega) (by omega) (by omega) (by omega)
      · rfl
theorem loopL_in {T : Int → Int} {n u v : Int} {p : Int → LR} (hx : u ≠ 0 ∧ v ≠ 0) (hp : goesOn n p) : ∀ (f : Nat) (a : Int) (acc : List Int) (q : Int × List Int), 0 ≤ a → a ≤ n → loopL T n u v p f a acc = .inr q → a ≤ q.1 ∧ q.1 ≤ n ∧ sk T n q.1 = q.1 ∧ ¬ (ch T n q.1 = u ∨ ch T n q.1 = v) := by
  intro f
  induction f with
  | zero => intro a acc q h0 ha h; unfold loopL at h; cases h
  | succ f ih =>
    intro a acc q h0 ha h
    have h1 := sk_in (T := T) ha
    unfold loopL at h
    split at h
    · next h2 =>
      have h3 : sk T n a < n := ch_lt (T := T) (by omega)
      cases hq : p (sk T n a + 1) with
      | inl e => rw [hq] at h; cases h
      | inr r => rw [hq] at h; have := hp _ (by omega) (by omega) r hq; have := ih r.1 _ q (by omega) (by omega) h; exact ⟨by omega, this.2⟩
    · next h2 => cases h; exact ⟨h1.1, h1.2, sk_idem, h2⟩
theorem two_low {T : Int → Int} {n x y u v : Int} {p : Int → LR} (hx : x ≠ 0 ∧ y ≠ 0 ∧ u ≠ 0 ∧ v ≠ 0) (hd : ¬ (u = x ∨ u = y ∨ v = x ∨ v = y)) (hp : goesOn n p) : ∀ (g f : Nat) (w a : Int) (A acc : List Int), 0 ≤ a → a ≤ n → n - a < f → n - a < g → twoL T n x y u v p f w a (A ++ acc) = (match loopL T n u v p g a acc with | .inl e => .inl e | .inr q => twoL T n x y u v p f w q.1 (A ++ q.2)) := by
  intro g
  induction g with
  | zero => intro f w a A acc h0 ha hf hg; exfalso; omega
  | succ g ih =>
    intro f w a A acc h0 ha hf hg
    obtain ⟨f, rfl⟩ : ∃ f' : Nat, f = f' + 1 := ⟨f - 1, by omega⟩
    have h1 := sk_in (T := T) ha
    by_cases h2 : ch T n (sk T n a) = u ∨ ch T n (sk T n a) = v
    · have h3 : sk T n a < n := ch_lt (T := T) (by omega)
      rw [loopL, if_pos h2]
      cases hq : p (sk T n a + 1) with
      | inl e => rw [twoL, if_neg (by omega), if_pos h2, hq]
      | inr q =>
        have h4 := hp _ (by omega) (by omega) q hq
        have h5 : twoL T n x y u v p (f + 1) w a (A ++ acc) = twoL T n x y u v p f w q.1 (A ++ (acc ++ q.2 ++ [-ch T n (sk T n a)])) := by
          rw [twoL, if_neg (by omega), if_pos h2, hq]
          simp only [List.append_assoc]
        rw [h5, ih f w q.1 A _ (by omega) (by omega) (by omega) (by omega)]
        show _ = (match loopL T n u v p g q.1 (acc ++ q.2 ++ [-ch T n (sk T n a)]) with | .inl e => (.inl e : LR) | .inr q => twoL T n x y u v p (f + 1) w q.1 (A ++ q.2))
        cases hl : loopL T n u v p g q.1 (acc ++ q.2 ++ [-ch T n (sk T n a)]) with
        | inl e => rfl
        | inr r => have h6 := loopL_in ⟨hx.2.2.1, hx.2.2.2⟩ hp _ _ _ r (by omega) (by omega) hl; exact twoL_fuel hx hp _ _ _ _ _ (by omega) (by omega) (by omega) (by omega)
    · rw [loopL, if_neg h2]
      show _ = twoL T n x y u v p (f + 1) w (sk T n a) (A ++ acc)
      rw [twoL, twoL]
      simp only [sk_idem]
theorem two_high {T : Int → Int} {n x y u v : Int} {p : Int → LR} (hn : n ≤ 160) (hx : x ≠ 0 ∧ y ≠ 0 ∧ u ≠ 0 ∧ v ≠ 0) (hd : ¬ (u = x ∨ u = y ∨ v = x ∨ v = y)) (hp : goesOn n p) : ∀ (g f : Nat) (w a : Int) (acc : List Int), 0 ≤ a → a ≤ n → n - a < f → n - a < g → ¬ (ch T n (sk T n a) = u ∨ ch T n (sk T n a) = v) → twoL T n x y u v p f w a acc = loopL T n x y (seqG T n u v p) g a (if w = 0 then acc else acc ++ [-w]) := by
  intro g
  induction g with
  | zero => intro f w a acc h0 ha hf hg; exfalso; omega
  | succ g ih =>
    intro f w a acc h0 ha hf hg h2
    obtain ⟨f, rfl⟩ : ∃ f' : Nat, f = f' + 1 := ⟨f - 1, by omega⟩
    have h1 := sk_in (T := T) ha
    rw [twoL, loopL]
    by_cases h3 : ch T n (sk T n a) = x ∨ ch T n (sk T n a) = y
    · have h4 : sk T n a < n := ch_lt (T := T) (by omega)
      rw [if_pos h3, if_pos h3]
      have hs : seqG T n u v p (sk T n a + 1) = (match p (sk T n a + 1) with | .inl g => .inl g | .inr q => loopL T n u v p 161 q.1 q.2) := rfl
      cases hq : p (sk T n a + 1) with
      | inl e => rw [hs, hq]
      | inr q =>
        have h5 := hp _ (by omega) (by omega) q hq
        rw [hs, hq]
        show twoL T n x y u v p f (ch T n (sk T n a)) q.1 ((if w = 0 then acc else acc ++ [-w]) ++ q.2) = (match loopL T n u v p 161 q.1 q.2 with | .inl g => .inl g | .inr r => loopL T n x y (seqG T n u v p) g r.1 ((if w = 0 then acc else acc ++ [-w]) ++ r.2 ++ [-ch T n (sk T n a)]))
        rw [two_low hx hd hp 161 f _ q.1 _ q.2 (by omega) (by omega) (by omega) (by omega)]
        cases hl : loopL T n u v p 161 q.1 q.2 with
        | inl e => rfl
        | inr r =>
          have h6 := loopL_in ⟨hx.2.2.1, hx.2.2.2⟩ hp _ _ _ r (by omega) (by omega) hl
          show twoL T n x y u v p f (ch T n (sk T n a)) r.1 ((if w = 0 then acc else acc ++ [-w]) ++ r.2) = _
          rw [ih f _ r.1 _ (by omega) (by omega) (by omega) (by omega) (by rw [h6.2.2.1]; exact h6.2.2.2), if_neg (show ¬ ch T n (sk T n a) = 0 by omega)]
    · rw [if_neg h3, if_neg h2, if_neg h3]
theorem two_all {T : Int → Int} {n x y u v : Int} {p : Int → LR} (hn : n ≤ 160) (hx : x ≠ 0 ∧ y ≠ 0 ∧ u ≠ 0 ∧ v ≠ 0) (hd : ¬ (u = x ∨ u = y ∨ v = x ∨ v = y)) (hp : goesOn n p) (a b : Int) (acc : List Int) (ha : 0 ≤ a) (hb : 0 ≤ b ∧ b ≤ n) : twoL T n x y u v p 161 0 b acc = (match loopL T n u v p 161 b acc with | .inl e => .inl e | .inr q => loopL T n x y (seqG T n u v p) 161 q.1 q.2) := by
  have h := two_low (T := T) hx hd hp 161 161 0 b [] acc hb.1 hb.2 (by omega) (by omega)
  rw [List.nil_append] at h
  rw [h]
  cases hl : loopL T n u v p 161 b acc with
  | inl e => rfl
  | inr r =>
    have h6 := loopL_in ⟨hx.2.2.1, hx.2.2.2⟩ hp _ _ _ r (by omega) (by omega) hl
    show twoL T n x y u v p 161 0 r.1 ([] ++ r.2) = _
    rw [List.nil_append, two_high hn hx hd hp 161 161 0 r.1 r.2 (by omega) (by omega) (by omega) (by omega) (by rw [h6.2.2.1]; exact h6.2.2.2), if_pos rfl]
theorem sum_two (T : Int → Int) (n : Int) (p : Int → LR) : ∀ (f : Nat) (w a : Int) (acc : List Int), sumL T n p f w a acc = twoL T n 43 45 42 47 p f w a acc := by
  intro f
  induction f with
  | zero => intro w a acc; rfl
  | succ f ih =>
    intro w a acc
    rw [sumL, twoL]
    split
    · cases p (sk T n a + 1) with
      | inl e => rfl
      | inr q => exact ih _ _ _
    · split
      · cases p (sk T n a + 1) with
        | inl e => rfl
        | inr q => exact ih _ _ _
      · rfl
theorem more_two (T : Int → Int) (n : Int) (p : Int → LR) : ∀ (f : Nat) (w : Bool) (a : Int) (acc : List Int), moreL T n p f w a acc = twoL T n 124 124 38 38 p f (if w then 124 else 0) a acc := by
  intro f
  induction f with
  | zero => intro w a acc; rfl
  | succ f ih =>
    intro w a acc
    have e : (if w then acc ++ [-124] else acc) = (if (if w then (124 : Int) else 0) = 0 then acc else acc ++ [-(if w then (124 : Int) else 0)]) := by cases w <;> rfl
    rw [moreL, twoL]
    by_cases h : ch T n (sk T n a) = 124
    · rw [if_pos h, if_pos (Or.inl h)]
      cases p (sk T n a + 1) with
      | inl e => rfl
      | inr q => exact (ih _ _ _).trans (by rw [h, ← e]; rfl)
    · rw [if_neg h, if_neg (show ¬ (ch T n (sk T n a) = 124 ∨ ch T n (sk T n a) = 124) from fun q => q.elim h h)]
      by_cases h2 : ch T n (sk T n a) = 38
      · rw [if_pos h2, if_pos (Or.inl h2)]
        cases p (sk T n a + 1) with
        | inl e => rfl
        | inr q => exact (ih _ _ _).trans (by rw [h2])
      · rw [if_neg h2, if_neg (show ¬ (ch T n (sk T n a) = 38 ∨ ch T n (sk T n a) = 38) from fun q => q.elim h2 h2), ← e]
theorem okLR_go {n : Int} {p : Int → LR} (h : ∀ a, 0 ≤ a → a ≤ n → okLR n a (p a)) : goesOn n p := fun a h0 ha q hq => by have := (h a h0 ha).2 q hq; omega
def pTerm (T : Int → Int) (n : Int) (k : Nat) : Int → LR := seqG T n 42 47 (pAtom T n k)
def pCj (T : Int → Int) (n : Int) (k : Nat) : Int → LR := seqG T n 38 38 (pUnit T n k)
theorem pSum_T {T : Int → Int} {n : Int} (hn : n ≤ 160) (k : Nat) (a : Int) (h0 : 0 ≤ a) (ha : a ≤ n) : pSum T n k a = seqG T n 43 45 (pTerm T n k) a := by
  have hg := okLR_go (pAS_ok (T := T) hn k).1
  rw [pSum_eq]
  unfold sumG
  have hs : seqG T n 43 45 (pTerm T n k) a = (match (match pAtom T n k a with | .inl g => (.inl g : LR) | .inr q => loopL T n 42 47 (pAtom T n k) 161 q.1 q.2) with | .inl g => .inl g | .inr q => loopL T n 43 45 (pTerm T n k) 161 q.1 q.2) := rfl
  rw [hs]
  cases hp : pAtom T n k a with
  | inl e => rfl
  | inr q => have := hg a h0 ha q hp; exact (sum_two _ _ _ _ _ _ _).trans (two_all hn (by decide) (by decide) hg a q.1 q.2 h0 (by omega))
theorem pMore_C {T : Int → Int} {n : Int} (hn : n ≤ 160) (k : Nat) (a : Int) (acc : List Int) (h0 : 0 ≤ a) (ha : a ≤ n) : moreL T n (pUnit T n k) 161 false a acc = (match loopL T n 38 38 (pUnit T n k) 161 a acc with | .inl e => .inl e | .inr q => loopL T n 124 124 (pCj T n k) 161 q.1 q.2) :=
  (more_two _ _ _ _ _ _ _).trans (two_all hn (by decide) (by decide) (okLR_go (pUnit_ok hn k)) a a acc h0 (by omega))
theorem loopL_s {T : Int → Int} {n u v a b : Int} {p : Int → LR} {f : Nat} {acc ts : List Int} (h : ch T n (sk T n a) = u ∨ ch T n (sk T n a) = v) (h2 : p (sk T n a + 1) = .inr (b, ts)) : loopL T n u v p (f + 1) a acc = loopL T n u v p f b (acc ++ ts ++ [-ch T n (sk T n a)]) := by rw [loopL, if_pos h, h2]
theorem loopL_f {T : Int → Int} {n u v a e : Int} {p : Int → LR} {f : Nat} {acc : List Int} (h : ch T n (sk T n a) = u ∨ ch T n (sk T n a) = v) (h2 : p (sk T n a + 1) = .inl e) : loopL T n u v p (f + 1) a acc = .inl e := by rw [loopL, if_pos h, h2]
theorem loopL_e {T : Int → Int} {n u v a : Int} {p : Int → LR} {f : Nat} {acc : List Int} (h : ¬ (ch T n (sk T n a) = u ∨ ch T n (sk T n a) = v)) : loopL T n u v p (f + 1) a acc = .inr (sk T n a, acc) := by rw [loopL, if_neg h]
theorem seqG_f {T : Int → Int} {n u v a e : Int} {p : Int → LR} (h : p a = .inl e) : seqG T n u v p a = .inl e := by unfold seqG; rw [h]
theorem seqG_r {T : Int → Int} {n u v a b : Int} {p : Int → LR} {ts : List Int} (h : p a = .inr (b, ts)) : seqG T n u v p a = loopL T n u v p 161 b ts := by unfold seqG; rw [h]
theorem loopL_ok {T : Int → Int} {n u v a0 : Int} {p : Int → LR} (huv : u ≠ 0 ∧ v ≠ 0 ∧ -200 ≤ -u ∧ -u ≤ 9999 ∧ -200 ≤ -v ∧ -v ≤ 9999) (hx : ∀ a, 0 ≤ a → a ≤ n → okLR n a (p a)) (h00 : 0 ≤ a0) : ∀ (f : Nat) (a : Int) (acc : List Int), a0 < a → a ≤ n → (acc.length : Int) ≤ a - a0 → 0 < acc.length → (∀ t ∈ acc, -200 ≤ t ∧ t ≤ 9999) → okLR n a0 (loopL T n u v p f a acc) := by
  intro f
  induction f with
  | zero => intro a acc h1 h2 h3 h4 h5; unfold loopL; exact okLR_l ⟨by omega, by omega⟩
  | succ f ih =>
    intro a acc h1 h2 h3 h4 h5
    have h6 := sk_in (T := T) h2
    unfold loopL
    split
    · next h7 =>
      have h8 : sk T n a < n := ch_lt (T := T) (by omega)
      have h9 := hx (sk T n a + 1) (by omega) (by omega)
      cases hq : p (sk T n a + 1) with
      | inl e => exact okLR_l (h9.1 e hq)
      | inr q =>
        have h10 := h9.2 q hq
        exact ih q.1 _ (by omega) h10.2.1 (by simp only [List.length_append, List.length_singleton, Int.natCast_add, Int.natCast_one]; omega) (by rw [List.length_append]; exact Nat.lt_of_lt_of_le (Nat.succ_pos 0) (Nat.le_add_left _ _)) (ok_app (ok_app h5 h10.2.2.2.2) (ok_one (by omega)))
    · exact okLR_r ⟨by omega, by omega, by show (acc.length : Int) ≤ _; omega, h4, h5⟩
theorem seqG_ok {T : Int → Int} {n u v : Int} {p : Int → LR} (huv : u ≠ 0 ∧ v ≠ 0 ∧ -200 ≤ -u ∧ -u ≤ 9999 ∧ -200 ≤ -v ∧ -v ≤ 9999) (hx : ∀ a, 0 ≤ a → a ≤ n → okLR n a (p a)) (a : Int) (h0 : 0 ≤ a) (ha : a ≤ n) : okLR n a (seqG T n u v p a) := by
  unfold seqG
  have h9 := hx a h0 ha
  cases hq : p a with
  | inl e => exact okLR_l (h9.1 e hq)
  | inr q => have h10 := h9.2 q hq; exact loopL_ok huv hx h0 161 q.1 q.2 (by omega) h10.2.1 h10.2.2.1 h10.2.2.2.1 h10.2.2.2.2
theorem pTerm_ok {T : Int → Int} {n : Int} (hn : n ≤ 160) (k : Nat) (a : Int) (h0 : 0 ≤ a) (ha : a ≤ n) : okLR n a (pTerm T n k a) := seqG_ok (by decide) (pAS_ok hn k).1 a h0 ha
theorem pCj_ok {T : Int → Int} {n : Int} (hn : n ≤ 160) (k : Nat) (a : Int) (h0 : 0 ≤ a) (ha : a ≤ n) : okLR n a (pCj T n k a) := seqG_ok (by decide) (pUnit_ok hn k) a h0 ha
end pt_09spec4
/- 09.spec5.lean.txt -/
section pt_09spec5
/-! A law's text in parts: each clause its condition and its sum -/
abbrev LSR : Type := Int ⊕ (Int × List Int × List Int)
def sumS (T : Int → Int) (n a : Int) (c : List Int) : LSR :=
  if ch T n (sk T n a) = 63 then
    match pSum T n 6 (sk T n a + 1) with
    | .inl f => .inl f
    | .inr q => .inr (q.1, c, q.2)
  else .inl (sk T n a)
def pLawS (T : Int → Int) (n a : Int) : LSR :=
  if ch T n (sk T n a) = 121 then
    if ch T n (sk T n (sk T n a + 1)) = 58 then
      if ch T n (sk T n (sk T n (sk T n a + 1) + 1)) = 33 ∨ ch T n (sk T n (sk T n (sk T n a + 1) + 1)) = 40 then
        match pCond T n 6 (sk T n (sk T n (sk T n a + 1) + 1)) with
        | .inl f => .inl f
        | .inr q => sumS T n q.1 q.2
      else
        match pSum T n 6 (sk T n (sk T n (sk T n a + 1) + 1)) with
        | .inl f => .inl f
        | .inr q =>
          if ch T n (sk T n q.1) = 61 ∨ ch T n (sk T n q.1) = 60 ∨ ch T n (sk T n q.1) = 62 then
            match cmpG T n 6 (sk T n q.1) with
            | .inl f => .inl f
            | .inr r =>
              match moreL T n (pUnit T n 6) 161 false r.1 (q.2 ++ r.2) with
              | .inl f => .inl f
              | .inr t => sumS T n t.1 t.2
          else .inr (sk T n q.1, [], q.2)
    else .inl (sk T n (sk T n a + 1))
  else .inl (sk T n a)
def joinC (c s : List Int) : List Int := (if c = [] then [] else c ++ [-63]) ++ s ++ [-59]
def toC : LSR → LR
  | .inl f => .inl f
  | .inr q => .inr (q.1, joinC q.2.1 q.2.2)
theorem sumB_S {T : Int → Int} {n a : Int} {c : List Int} (h : 0 < c.length) : sumB T n a c = toC (sumS T n a c) := by
  have hc : c ≠ [] := fun e => by rw [e] at h; exact absurd h (by decide)
  unfold sumB sumS
  split
  · cases pSum T n 6 (sk T n a + 1) with
    | inl f => rfl
    | inr q => show (Sum.inr (q.1, c ++ [-63] ++ q.2 ++ [-59]) : LR) = Sum.inr (q.1, joinC c q.2); unfold joinC; rw [if_neg hc]
  · rfl
theorem pLawC_S {T : Int → Int} {n a : Int} (hn : n ≤ 160) (h0 : 0 ≤ a) (ha : a ≤ n) : pLawC T n a = toC (pLawS T n a) := by
  have k1 := sk_in (T := T) ha
  unfold pLawC pLawS
  by_cases c1 : ch T n (sk T n a) = 121
  · rw [if_pos c1, if_pos c1]
    have l1 : sk T n a < n := ch_lt (T := T) (by omega)
    have k2 := sk_in (T := T) (n := n) (a := sk T n a + 1) (by omega)
    by_cases c2 : ch T n (sk T n (sk T n a + 1)) = 58
    · rw [if_pos c2, if_pos c2]
      have l2 : sk T n (sk T n a + 1) < n := ch_lt (T := T) (by omega)
      have k3 := sk_in (T := T) (n := n) (a := sk T n (sk T n a + 1) + 1) (by omega)
      by_cases c3 : ch T n (sk T n (sk T n (sk T n a + 1) + 1)) = 33 ∨ ch T n (sk T n (sk T n (sk T n a + 1) + 1)) = 40
      · rw [if_pos c3, if_pos c3]
        have h4 := pCond_ok (T := T) hn 6 (sk T n (sk T n (sk T n a + 1) + 1)) (by omega) (by omega)
        cases hp : pCond T n 6 (sk T n (sk T n (sk T n a + 1) + 1)) with
        | inl f => rfl
        | inr q => exact sumB_S (h4.2 q hp).2.2.2.1
      · rw [if_neg c3, if_neg c3]
        have h4 := (pAS_ok (T := T) hn 6).2 (sk T n (sk T n (sk T n a + 1) + 1)) (by omega) (by omega)
        cases hp : pSum T n 6 (sk T n (sk T n (sk T n a + 1) + 1)) with
        | inl f => rfl
        | inr q =>
          have h5 := h4.2 q hp
          have k4 := sk_in (T := T) h5.2.1
          show (if ch T n (sk T n q.1) = 61 ∨ ch T n (sk T n q.1) = 60 ∨ ch T n (sk T n q.1) = 62 then
              (match cmpG T n 6 (sk T n q.1) with
              | .inl f => (.inl f : LR)
              | .inr r =>
                match moreL T n (pUnit T n 6) 161 false r.1 (q.2 ++ r.2) with
                | .inl f => .inl f
                | .inr t => sumB T n t.1 t.2)
            else .inr (sk T n q.1, q.2 ++ [-59])) = toC (if ch T n (sk T n q.1) = 61 ∨ ch T n (sk T n q.1) = 60 ∨ ch T n (sk T n q.1) = 62 then
              (match cmpG T n 6 (sk T n q.1) with
              | .inl f => (.inl f : LSR)
              | .inr r =>
                match moreL T n (pUnit T n 6) 161 false r.1 (q.2 ++ r.2) with
                | .inl f => .inl f
                | .inr t => sumS T n t.1 t.2)
            else .inr (sk T n q.1, [], q.2))
          by_cases c4 : ch T n (sk T n q.1) = 61 ∨ ch T n (sk T n q.1) = 60 ∨ ch T n (sk T n q.1) = 62
          · rw [if_pos c4, if_pos c4]
            have h6 := cmpG_ok (T := T) hn 6 (sk T n q.1) (by omega) (by omega)
            cases hr : cmpG T n 6 (sk T n q.1) with
            | inl f => rfl
            | inr r =>
              have h7 := h6.2 r hr
              show (match moreL T n (pUnit T n 6) 161 false r.1 (q.2 ++ r.2) with
                | .inl f => (.inl f : LR)
                | .inr t => sumB T n t.1 t.2) = toC (match moreL T n (pUnit T n 6) 161 false r.1 (q.2 ++ r.2) with
                | .inl f => (.inl f : LSR)
                | .inr t => sumS T n t.1 t.2)
              have h8 := moreL_ok (T := T) (pUnit_ok (T := T) hn 6) (show (0 : Int) ≤ sk T n a by omega) 161 false r.1 (q.2 ++ r.2) (by omega) h7.2.1 (by rw [List.length_append, if_neg (by decide)]; omega) (by rw [List.length_append]; omega) (ok_app h5.2.2.2.2 h7.2.2.2.2)
              cases hm : moreL T n (pUnit T n 6) 161 false r.1 (q.2 ++ r.2) with
              | inl f => rfl
              | inr t => exact sumB_S (h8.2 t hm).2.2.2.1
          · rw [if_neg c4, if_neg c4]
            show (Sum.inr (sk T n q.1, q.2 ++ [-59]) : LR) = Sum.inr (sk T n q.1, joinC [] q.2)
            unfold joinC
            rw [if_pos rfl, List.nil_append]
    · rw [if_neg c2, if_neg c2]; rfl
  · rw [if_neg c1, if_neg c1]; rfl
def pLawLS (T : Int → Int) (n : Int) : Nat → Int → List (List Int × List Int) → Int ⊕ List (List Int × List Int)
  | 0, _, acc => .inr acc
  | k + 1, a, acc =>
    match pLawS T n a with
    | .inl f => .inl f
    | .inr q =>
      if ch T n (sk T n q.1) = 0 then .inr (acc ++ [q.2])
      else if ch T n (sk T n q.1) = 59 then pLawLS T n k (sk T n q.1 + 1) (acc ++ [q.2])
      else .inl (sk T n q.1)
def flatLaw (l : List (List Int × List Int)) : List Int := l.flatMap (fun p => joinC p.1 p.2)
def codesOf (l : List (List Int × List Int)) : List Int := l.flatMap (fun p => p.1 ++ p.2)
theorem flatLaw_one {l : List (List Int × List Int)} {p : List Int × List Int} : flatLaw (l ++ [p]) = flatLaw l ++ joinC p.1 p.2 := by
  unfold flatLaw; rw [List.flatMap_append]; simp
theorem codesOf_one {l : List (List Int × List Int)} {p : List Int × List Int} : codesOf (l ++ [p]) = codesOf l ++ (p.1 ++ p.2) := by
  unfold codesOf; rw [List.flatMap_append]; simp
def lpr : LR → Int ⊕ List Int
  | .inl f => .inl f
  | .inr q => .inr q.2
def lps : (Int ⊕ List (List Int × List Int)) → Int ⊕ List Int
  | .inl f => .inl f
  | .inr l => .inr (flatLaw l)
/-- where the parts of each clause begin and end -/
def tfOf (k : Int) : List (List Int × List Int) → List Int
  | [] => []
  | p :: r => k :: tfOf (k + p.1.length + p.2.length) r
def sfOf (k : Int) : List (List Int × List Int) → List Int
  | [] => []
  | p :: r => (k + p.1.length) :: sfOf (k + p.1.length + p.2.length) r
def stOf (k : Int) : List (List Int × List Int) → List Int
  | [] => []
  | p :: r => (k + p.1.length + p.2.length) :: stOf (k + p.1.length + p.2.length) r
theorem codesOf_c {l : List (List Int × List Int)} {p : List Int × List Int} : ((codesOf (p :: l)).length : Int) = p.1.length + p.2.length + (codesOf l).length := by
  unfold codesOf; rw [List.flatMap_cons, List.length_append, List.length_append]; omega
theorem tfOf_one {l : List (List Int × List Int)} {p : List Int × List Int} : ∀ (k : Int), tfOf k (l ++ [p]) = tfOf k l ++ [k + (codesOf l).length] := by
  induction l with
  | nil => intro k; show [k] = [k + ((0 : Nat) : Int)]; rw [show k + ((0 : Nat) : Int) = k by omega]
  | cons q l ih => intro k; show k :: tfOf _ (l ++ [p]) = k :: (tfOf _ l ++ [_]); rw [ih, codesOf_c]; congr 3; omega
theorem sfOf_one {l : List (List Int × List Int)} {p : List Int × List Int} : ∀ (k : Int), sfOf k (l ++ [p]) = sfOf k l ++ [k + (codesOf l).length + p.1.length] := by
  induction l with
  | nil => intro k; show [k + (p.1.length : Int)] = [k + ((0 : Nat) : Int) + (p.1.length : Int)]; rw [show k + ((0 : Nat) : Int) = k by omega]
  | cons q l ih => intro k; show _ :: sfOf _ (l ++ [p]) = _ :: (sfOf _ l ++ [_]); rw [ih, codesOf_c]; congr 3; omega
theorem stOf_one {l : List (List Int × List Int)} {p : List Int × List Int} : ∀ (k : Int), stOf k (l ++ [p]) = stOf k l ++ [k + (codesOf l).length + p.1.length + p.2.length] := by
  induction l with
  | nil => intro k; show [k + (p.1.length : Int) + (p.2.length : Int)] = [k + ((0 : Nat) : Int) + (p.1.length : Int) + (p.2.length : Int)]; rw [show k + ((0 : Nat) : Int) = k by omega]
  | cons q l ih => intro k; show _ :: stOf _ (l ++ [p]) = _ :: (stOf _ l ++ [_]); rw [ih, codesOf_c]; congr 3; omega
theorem tfOf_len {l : List (List Int × List Int)} : ∀ (k : Int), (tfOf k l).length = l.length ∧ (sfOf k l).length = l.length ∧ (stOf k l).length = l.length := by
  induction l with
  | nil => intro k; exact ⟨rfl, rfl, rfl⟩
  | cons q l ih => intro k; have h := ih (k + q.1.length + q.2.length); exact ⟨congrArg Nat.succ h.1, congrArg Nat.succ h.2.1, congrArg Nat.succ h.2.2⟩
end pt_09spec5
/- 09.up.lean.txt -/
section pt_09up
/-! A STATIC METHOD CALLED BY THE NAME OF A CLASS BELOW ITS OWN (the kit has this row for virtual calls): first the instruction, then the call, then a row for the walk -/
section UPA
variable {Q : Unit → Pre} {E : CtlPost} {e : Env} {d : Bool} {acts : List Action} {s s₀ : State} {f : JFrame}
/-- linking changes the tables and nothing else of what the instruction does -/
theorem up_link {index ci nt c : Nat} {r : MethodId} {dk ck : Class} {cf : ClassFile} {name desc : String} (top : s.topJava?.isSome) (pol : e.platform.polymorphicOnlyByInvokevirtual = true)
    (warm : s₀.WarmedH s.vm) (ent : s₀.MethodEntryUp e s.vm f.method.cls index c r ci) (cls : s₀.vm.classes[f.method.cls]? = some dk) (file : dk.cf = some cf)
    (ref : cf.constantPool[index]? = some (.methodref ci nt)) (nat : cf.constantPool.nameAndType? nt = some (name, desc))
    (tgt : s₀.vm.classes[c]? = some ck) (plain : (ck.methods.any fun x => x.name == name && !x.isStatic && signaturePolymorphic ck x) = false) :
    wp (Op.invokestatic.sem index) Q E e d acts (s.setTop f) ↔ wp (Op.invokestatic.sem index) Q E e d acts ((s.setVm (s.vm.calledUp f.method.cls ci index c r)).setTop f) := by
  obtain ⟨entC, -, warmC, entM⟩ := ent.classFirst
  obtain ⟨ka, ka1, ka2⟩ := warm.alike.2.2 _ _ cls
  obtain ⟨kb, kb1, kb2⟩ := ent.warmed.alike.2.2 _ _ cls
  obtain ⟨ta, ta1, ta2⟩ := warmC.alike.2.2 _ _ tgt
  obtain ⟨tb, tb1, tb2⟩ := ent.warmed.alike.2.2 _ _ tgt
  have ref' : cf.constantPool[index]? = some (if false then .interfaceMethodref ci nt else .methodref ci nt) := ref
  have askA := memberRef_ask_via (e := e) ka1 (by rw [ka2]; exact file) ref' nat
  have askB := memberRef_ask_via (e := e) kb1 (by rw [kb2]; exact file) ref' nat
  have plainA : (ta.methods.any fun x => x.name == name && !x.isStatic && signaturePolymorphic ta x) = false := by rw [ta2]; exact plain
  have plainB : (tb.methods.any fun x => x.name == name && !x.isStatic && signaturePolymorphic tb x) = false := by rw [tb2]; exact plain
  have topC : (s.setVm (s.vm.noted f.method.cls ci (.cls c))).topJava?.isSome := top
  have topM : (s.setVm (s.vm.calledUp f.method.cls ci index c r)).topJava?.isSome := top
  have goC : ∀ {Q' : ClassId → Pre} {d' : Bool} {acts' : List Action}, wp (Jvm.resolveClassAt ci) Q' E e d' acts' (s.setTop f) ↔ Q' c d' acts' ((s.setVm (s.vm.noted f.method.cls ci (.cls c))).setTop f) := W.resolveClassAt_links (t := s.setTop f) (State.method?_setTop f top) entC
  have goM : ∀ {Q' : MethodId → Pre} {d' : Bool} {acts' : List Action}, wp (Jvm.resolveMethodAt index) Q' E e d' acts' ((s.setVm (s.vm.noted f.method.cls ci (.cls c))).setTop f) ↔ Q' r d' acts' ((s.setVm (s.vm.calledUp f.method.cls ci index c r)).setTop f) := W.resolveMethodAt_links (t := (s.setVm (s.vm.noted f.method.cls ci (.cls c))).setTop f) (State.method?_setTop f topC) entM
  simp [Op.invokestatic.sem, pol, Seam.memberRefOf, State.method?_setTop f top, State.method?_setTop f topM, askA, askB, goC, goM, W.resolveClassAt_ready (s := (s.setVm (s.vm.calledUp f.method.cls ci index c r)).setTop f) (State.method?_setTop f topM) ent.classReady, W.resolveMethodAt_ready (s := (s.setVm (s.vm.calledUp f.method.cls ci index c r)).setTop f) (State.method?_setTop f topM) ent.ready, ta1, tb1, plainA, plainB, -Array.any_eq_true]
end UPA
section UPB
variable {p : Program} {l : Launch} {e : Env} {R : Room} {s : State} {m : MethodId} {args : Array Value} {below : List Frame} {meth : Method} {c : Code} {T : State} {locs : List Loc} {cells slots : Nat}
theorem up_enter (X : Stand p l e R s m args below meth c T locs cells slots) (hexec : p.tables.exec = Jvm.exec) {own owner : String} {index : Nat} {x : MethodName} (hown : s.vm.findClass own = some m.cls)
    (hlink : (Cond.methodLink own index x).before args s = true) (hsame : (Cond.sameMethod x.cls owner x.name x.desc).before args s = true) (hno : owner ≠ "java/lang/invoke/MethodHandle" ∧ owner ≠ "java/lang/invoke/VarHandle")
    {r : MethodId} {rm : Method} {rk : Class} (hr : s.methodNamed? ⟨owner, x.name, x.desc⟩ = some r) (hrm : s.vm.method? r = some rm) (hst : rm.isStatic = true) (hrk : s.vm.classes[r.cls]? = some rk) (hini : rk.init = .initialized)
    {g : JFrame} (hg : g.method = m) {argsL rest : List Value} (hlen : argsL.length = rm.sig.parameters.length) (hstack : g.stack = argsL.reverse ++ rest) (hdg : decode c.code g.pc = .ok (.invokestatic index, 3)) :
    ∃ vm', Stand p l e R s m args below meth c (T.setVm vm') locs cells slots ∧ ∀ target, (∀ acts, Steps p.tables e below (doInvoke e ((T.setVm vm').setTop { g with stack := rest }) acts r argsL.toArray).1 target) → Steps p.tables e below (T.setTop g) target := by
  have plat := X.admits.platform
  obtain ⟨cn, ck, r1, hcn, hck, hni, hf, hr1⟩ := Cond.sameMethod_found hsame
  cases hr.symm.trans hr1
  obtain ⟨ci, hl, hright⟩ := Cond.methodLink_specUp hown hcn hck hni hf hlink e.platform (by rw [plat]) (by rw [plat])
  have ent : s.MethodEntryUp e T.vm m.cls index cn r ci := State.methodEntryUp X.warmed hl hright
  obtain ⟨kx, hkx, hnx⟩ := className_of_methodNamed hr
  cases hrk.symm.trans hkx
  obtain ⟨dk, cfile, nt, mname, mdesc, ck', _, _, hd, hcf, hcp, hnt, -, -, hck', -, hpoly, -⟩ := hl.here
  cases hck.symm.trans hck'
  have like := ent.warmed.alike
  obtain ⟨d2, d21, d22⟩ := like.2.2 _ _ hd
  obtain ⟨r2, r21, r22⟩ := like.2.2 _ _ hrk
  obtain ⟨c2, c21, c22⟩ := like.2.2 _ _ hck
  have plain : (ck.methods.any fun y => y.name == mname && !y.isStatic && signaturePolymorphic ck y) = false := by simp [hpoly]
  have plain2 : (c2.methods.any fun y => y.name == mname && !y.isStatic && signaturePolymorphic c2 y) = false := by rw [c22]; exact plain
  have hcp' : cfile.constantPool[index]? = some (if false then .interfaceMethodref ci nt else .methodref ci nt) := hcp
  refine ⟨T.vm.calledUp m.cls ci index cn r, X.noted ent.warmed, fun target go => ?_⟩
  subst hg
  jvm_step X.here [hexec, hdg, up_link (e := e) (s := T) (s₀ := s) (f := g) X.here.top (by rw [plat]) X.warmed ent hd hcf hcp hnt hck plain,
    invokestatic.wp_ready (e := e) (s := T.setVm (T.vm.calledUp g.method.cls ci index cn r)) (k := r2) (meth := rm) (m := r) (args := argsL) (rest := rest) (f := g)
      X.here.top ⟨ci, mname, mdesc, false, cn, c2, memberRef_ask_via (e := e) d21 (by rw [d22]; exact hcf) hcp' hnt, ent.classReady, c21, plain2⟩ ent.ready r21
      (by show (T.vm.calledUp g.method.cls ci index cn r).method? r = some rm; rw [like.method?]; exact hrm)
      (by rw [r22]; show signaturePolymorphic rk rm = false; simp [signaturePolymorphic, hnx, hno.1, hno.2]) hst (by rw [r22]; exact hini) hlen hstack]
  exact fun acts => go _
end UPB
def LkSU (own : String) (idx : Nat) (owner : String) (x y : MethodName) (b : ByteArray) (n : Nat) (ret : Option FieldType) (k : Nat) : Prop := (Cond.methodLink own idx x ∈ uw ∧ Cond.sameMethod x.cls owner x.name x.desc ∈ uw ∧ Cond.static y ∈ uw ∧ Cond.initialized y.cls ∈ uw ∧ Cond.code y b n ret ∈ uw) ∧ y = ⟨owner, x.name, x.desc⟩ ∧ okD y k
section UPC
variable {p : Program} {l : Launch} {e : Env} {R : Room} {s : State} {m : MethodId} {args : Array Value} {below : List Frame} {meth : Method} {c : Code} {Q : State → Prop} {D : va_G} {G : GG} {A : Nat → Prop} {cc : ByteArray} {nL cells slots pc : Nat} {rt : Option FieldType} {own owner : String} {L : Nat → Option AV} {st : List AV} {ws : EW}
variable {x y : MethodName} {b : ByteArray} {n d mc ms idx k : Nat} {ret : Option FieldType} {av avs rest : List AV} {wc : EW} {is : List Nat}
theorem run_SU (X : Cx p s m args meth c D G A cc nL rt own) (K : LkSU own idx owner x y b n ret k) (hst : st = avs.reverse ++ rest) (hk : avs.length = k) (h8 : rest.length ≤ 8) (hR : d + 1 ≤ R.frames ∧ 8 + (n + 11) + 40 * d ≤ R.locals) (hcs : cells + mc ≤ R.cells ∧ slots + ms ≤ R.slots) (hdg : decode cc pc = .ok (.invokestatic idx, 3)) (hn : va_nd is = true) (hC : is.map (fun i => ws[i]?) = wc.map some) :
    Runs p l e R s m args below meth c D G A nL cells slots pc L st ws y b n ret d mc ms avs wc rest := by
  intro H locs ls hP hD hS hl Qc free hM
  obtain ⟨⟨k1, k2, k3, k4, k5⟩, k6, k7⟩ := K
  have hts := X.2.2.2.2.1
  have hcode := hts _ k5
  intro T hT Y
  obtain ⟨mk, hnamed⟩ := Cond.code_named hcode
  obtain ⟨methM, cM, hmethM, -, -, -, -, -, -, hsigM⟩ := Cond.code_spec hnamed hcode
  have hstat : methM.isStatic = true := Cond.static_spec hnamed hmethM (hts _ k3)
  obtain ⟨kP, hkP, -⟩ := className_of_methodNamed hnamed
  have hinitP : kP.init = .initialized := Cond.initialized_spec (findClass_of_methodNamed hnamed) hkP (hts _ k4)
  have hlen : ((avs.map tV).length : Nat) = methM.sig.parameters.length := by
    have h2 := k7.2.2
    rw [hsigM] at h2
    rw [List.length_map, hk]
    exact (Option.some.inj h2).symm
  obtain ⟨vm₁, Y₁, hstep₁⟩ := up_enter Y X.1 X.2.2.2.1 (hts _ k1) (hts _ k2) (by rw [k6] at k7; exact ⟨k7.1, k7.2.1⟩) (by rw [← k6]; exact hnamed) hmethM hstat hkP hinitP (g := F0 m pc ls (st.map tV)) rfl (argsL := avs.map tV) (rest := rest.map tV) hlen (stk_S hst) (by rw [X.2.1]; exact hdg)
  have hback : Back l R p e below s args y 3 8 (PreOf R mc ms (PcA D G avs wc H.size)) (PostOf Qc mc ms free) :=
    back_of (bytes := b) (maxL := n) (ret := ret) hM pcA_blind rfl rfl hR.1 hR.2 (pay_in hts (uw_cons k5)) List.mem_cons_self (fun a' U hW => word_at hW (Or.inl (by first | rfl | simp [Cond.onTables, Cond.keeps, Cond.steady])) (hts _ k4))
  obtain ⟨v, ⟨U', l2, c2, s2⟩, Y', ⟨g', mk', t, L2, e1, e2, hq, h1, hL, h2, h3⟩, hsteps⟩ := hback m meth c ⟨T.setVm vm₁, locs, cells, slots⟩ (F0 m pc ls (rest.map tV)) (.invokestatic idx) mk (avs.map tV).toArray Y₁ rfl (by show ls.size = _; rw [hl.1, X.2.2.1]) (by rw [X.2.1]; exact hdg) (room8 h8) (Y₁.named hnamed) ⟨hcs.1, hcs.2, pcA_ok X hP hD hS hn hC (T.setVm vm₁) hT Y₁.warmed⟩
  dsimp only [Pt.U, Pt.locs, Pt.cells, Pt.slots] at Y' e1 e2 h1 h2 h3 hsteps
  subst h1; subst h2; subst h3
  exact ⟨v, (T.setVm vm₁).calling g' mk' (avs.map tV).toArray, t, U', L2, hT, Y', hL, e1, e2, hq, fun target h => hstep₁ _ (fun acts => by rw [doInvoke_state]; exact hsteps.trans h)⟩
end UPC
end pt_09up
/- 09.upl.lean.txt -/
section pt_09upl
theorem lkX2_77 : LkSU RX2 77 "BorrowedBeat$Reader" ⟨"BorrowedBeat$LawReader", "isDigit", "(I)Z"⟩ yX5_isDigit cX5_isDigit 1 (some .boolean) 1 := ⟨⟨m531, m532, m533, m87, m534⟩, rfl, okd_yX5_isDigit⟩
end pt_09upl
/- 10.tape.lean.txt -/
section pt_10tape
def nz (b : Int) : Int := if b = 0 then 0 else 1
theorem nz_0 {b : Int} (h : b = 0) : nz b = 0 := if_pos h
theorem nz_1 {b : Int} (h : ¬ b = 0) : nz b = 1 := if_neg h
theorem nz_in (b : Int) : 0 ≤ nz b ∧ nz b ≤ 1 := by unfold nz; split <;> omega
def cNZ (b : Int) (l : List Int) : List Int := if b = 0 then l else b :: l
theorem cNZ_0 {b : Int} {l : List Int} (h : b = 0) : cNZ b l = l := if_pos h
theorem cNZ_1 {b : Int} {l : List Int} (h : ¬ b = 0) : cNZ b l = b :: l := if_neg h
theorem cNZ_len {b : Int} {l : List Int} : ((cNZ b l).length : Int) = nz b + l.length := by
  unfold cNZ nz
  split
  · omega
  · simp only [List.length_cons]; omega
/-- the bytes of a number, the highest first, bytes of 0 left out -/
def bys (x : Int) : List Int := cNZ (zAnd (zUshr x 24) 255) (cNZ (zAnd (zUshr x 16) 255) (cNZ (zAnd (zUshr x 8) 255) (cNZ (zAnd (zUshr x 0) 255) [])))
def byn (x : Int) : Int := nz (zAnd (zUshr x 24) 255) + nz (zAnd (zUshr x 16) 255) + nz (zAnd (zUshr x 8) 255) + nz (zAnd (zUshr x 0) 255)
theorem bys_len (x : Int) : ((bys x).length : Int) = byn x := by
  unfold bys byn
  simp only [cNZ_len, List.length_nil]
  omega
theorem byn_in (x : Int) : 0 ≤ byn x ∧ byn x ≤ 4 := by
  have h1 := nz_in (zAnd (zUshr x 24) 255)
  have h2 := nz_in (zAnd (zUshr x 16) 255)
  have h3 := nz_in (zAnd (zUshr x 8) 255)
  have h4 := nz_in (zAnd (zUshr x 0) 255)
  unfold byn
  omega
def fbs (a b c d e : Int) : List Int := bys a ++ (bys b ++ (bys c ++ (bys d ++ bys e)))
def fbn (a b c d e : Int) : Int := byn a + byn b + byn c + byn d + byn e
theorem fbs_len (a b c d e : Int) : ((fbs a b c d e).length : Int) = fbn a b c d e := by
  unfold fbs fbn
  simp only [List.length_append]
  have h1 := bys_len a
  have h2 := bys_len b
  have h3 := bys_len c
  have h4 := bys_len d
  have h5 := bys_len e
  omega
theorem zAnd255 (x : Int) : 0 ≤ zAnd x 255 ∧ zAnd x 255 ≤ 255 := by
  unfold zAnd
  have h := pk_andE (i32 x) (m := 255) 8 (by decide)
  obtain ⟨j, h1, h2⟩ := h
  have e : i32 255 = 255 := by decide
  rw [e, h2, nI_toInt (by omega)]
  omega
theorem bys_ok (x : Int) : ∀ t ∈ bys x, 1 ≤ t ∧ t ≤ 255 := by
  have key : ∀ (b : Int) (l : List Int), (0 ≤ b ∧ b ≤ 255) → (∀ t ∈ l, 1 ≤ t ∧ t ≤ 255) → ∀ t ∈ cNZ b l, 1 ≤ t ∧ t ≤ 255 := by
    intro b l hb hl t ht
    unfold cNZ at ht
    split at ht
    · exact hl t ht
    · rcases List.mem_cons.mp ht with e | e
      · rw [e]; omega
      · exact hl t e
  unfold bys
  exact key _ _ (zAnd255 _) (key _ _ (zAnd255 _) (key _ _ (zAnd255 _) (key _ _ (zAnd255 _) (fun t h => by cases h))))
theorem fbs_ok (a b c d e : Int) : ∀ t ∈ fbs a b c d e, 1 ≤ t ∧ t ≤ 255 := by
  unfold fbs
  intro t ht
  rcases List.mem_append.mp ht with h | h
  · exact bys_ok a t h
  rcases List.mem_append.mp h with h | h
  · exact bys_ok b t h
  rcases List.mem_append.mp h with h | h
  · exact bys_ok c t h
  rcases List.mem_append.mp h with h | h
  · exact bys_ok d t h
  · exact bys_ok e t h
theorem okT_app {T : Int → Int} {n : Int} {l : List Int} (h : okT T n) (hl : ∀ t ∈ l, 1 ≤ t ∧ t ≤ 255) (hn : n + l.length ≤ 160) : okT (wrL T n l) (n + l.length) := by
  obtain ⟨h0, h1, h2⟩ := h
  refine ⟨by omega, hn, fun j j0 j1 => ?_⟩
  rcases Int.lt_or_le j n with q | q
  · rw [wrL_lo q]; exact h2 j j0 q
  · obtain ⟨i, hi⟩ : ∃ i : Nat, j = n + i := ⟨(j - n).toNat, by omega⟩
    subst hi
    have hi2 : i < l.length := by omega
    have h3 : l[i]? = some l[i] := List.getElem?_eq_getElem hi2
    rw [wrL_in h3]
    exact hl _ (List.getElem_mem hi2)
set_option maxHeartbeats 4000000 in
set_option maxRecDepth 100000 in
theorem kX7_bytesIn (l : Launch) (x : Int) : AMi l yX7_bytesIn cX7_bytesIn 3 .int 0 0 0 [iv x] [] (fun z u => z = byn x ∧ u = []) := by
  refine AMi.of2 rfl (nle rfl) ?_
  intro D G A p e s m args below meth c Po hPo X
  refine S_iconst X dX7_bytesIn_0 ?_
  refine S_istore_n X dX7_bytesIn_1 rfl (nle rfl) ?_
  refine S_bipush X dX7_bytesIn_2 rfl ?_
  refine S_istore_n X dX7_bytesIn_4 rfl (nle rfl) ?_
  refine S_iload_n X dX7_bytesIn_5 rfl rfl ?_
  refine S_if_lt (tgt := 28) X dX7_bytesIn_6 (by decide) (by decide) (fun h9 => absurd h9 (by decide)) (fun _ => ?_)
  refine S_iload_n X dX7_bytesIn_9 rfl rfl ?_
  refine S_iload_n X dX7_bytesIn_10 rfl rfl ?_
  refine S_iushr X dX7_bytesIn_11 ?_
  refine S_sipush X dX7_bytesIn_12 rfl ?_
  refine S_iand X dX7_bytesIn_15 ?_
  have hr_1 := zAnd_r (zUshr x 24) 255
  refine S_if_eq (tgt := 22) X dX7_bytesIn_16 (by decide) (by omega) (fun c_2 => ?_) (fun c_2 => ?_)
  ·
    have hz_c_2 := nz_0 c_2
    refine S_iincK (w := 16) X dX7_bytesIn_22 (nle rfl) rfl (by decide) ?_
    refine S_goto (tgt := 5) X dX7_bytesIn_25 (by decide) ?_
    refine S_iload_n X dX7_bytesIn_5 rfl rfl ?_
    refine S_if_lt (tgt := 28) X dX7_bytesIn_6 (by decide) (by decide) (fun h9 => absurd h9 (by decide)) (fun _ => ?_)
    refine S_iload_n X dX7_bytesIn_9 rfl rfl ?_
    refine S_iload_n X dX7_bytesIn_10 rfl rfl ?_
    refine S_iushr X dX7_bytesIn_11 ?_
    refine S_sipush X dX7_bytesIn_12 rfl ?_
    refine S_iand X dX7_bytesIn_15 ?_
    have hr_3 := zAnd_r (zUshr x 16) 255
    refine S_if_eq (tgt := 22) X dX7_bytesIn_16 (by decide) (by omega) (fun c_4 => ?_) (fun c_4 => ?_)
    ·
      have hz_c_4 := nz_0 c_4
      refine S_iincK (w := 8) X dX7_bytesIn_22 (nle rfl) rfl (by decide) ?_
      refine S_goto (tgt := 5) X dX7_bytesIn_25 (by decide) ?_
      refine S_iload_n X dX7_bytesIn_5 rfl rfl ?_
      refine S_if_lt (tgt := 28) X dX7_bytesIn_6 (by decide) (by decide) (fun h9 => absurd h9 (by decide)) (fun _ => ?_)
      refine S_iload_n X dX7_bytesIn_9 rfl rfl ?_
      refine S_iload_n X dX7_bytesIn_10 rfl rfl ?_
      refine S_iushr X dX7_bytesIn_11 ?_
      refine S_sipush X dX7_bytesIn_12 rfl ?_
      refine S_iand X dX7_bytesIn_15 ?_
      have hr_5 := zAnd_r (zUshr x 8) 255
      refine S_if_eq (tgt := 22) X dX7_bytesIn_16 (by decide) (by omega) (fun c_6 => ?_) (fun c_6 => ?_)
      ·
        have hz_c_6 := nz_0 c_6
        refine S_iincK (w := 0) X dX7_bytesIn_22 (nle rfl) rfl (by decide) ?_
        refine S_goto (tgt := 5) X dX7_bytesIn_25 (by decide) ?_
        refine S_iload_n X dX7_bytesIn_5 rfl rfl ?_
        refine S_if_lt (tgt := 28) X dX7_bytesIn_6 (by decide) (by decide) (fun h9 => absurd h9 (by decide)) (fun _ => ?_)
        refine S_iload_n X dX7_bytesIn_9 rfl rfl ?_
        refine S_iload_n X dX7_bytesIn_10 rfl rfl ?_
        refine S_iushr X dX7_bytesIn_11 ?_
        refine S_sipush X dX7_bytesIn_12 rfl ?_
        refine S_iand X dX7_bytesIn_15 ?_
        have hr_7 := zAnd_r (zUshr x 0) 255
        refine S_if_eq (tgt := 22) X dX7_bytesIn_16 (by decide) (by omega) (fun c_8 => ?_) (fun c_8 => ?_)
        ·
          have hz_c_8 := nz_0 c_8
          refine S_iincK (w := -8) X dX7_bytesIn_22 (nle rfl) rfl (by decide) ?_
          refine S_goto (tgt := 5) X dX7_bytesIn_25 (by decide) ?_
          refine S_iload_n X dX7_bytesIn_5 rfl rfl ?_
          refine S_if_lt (tgt := 28) X dX7_bytesIn_6 (by decide) (by decide) (fun _ => ?_) (fun h9 => absurd h9 (by decide))
          refine S_iload_n X dX7_bytesIn_28 rfl rfl ?_
          exact S_iret X (nle rfl) (nle rfl) dX7_bytesIn_29 (hPo _ _ (⟨by unfold byn; omega, rfl⟩))
        ·
          have hz_c_8 := nz_1 c_8
          refine S_iincK (w := 1) X dX7_bytesIn_19 (nle rfl) rfl (by decide) ?_
          refine S_iincK (w := -8) X dX7_bytesIn_22 (nle rfl) rfl (by decide) ?_
          refine S_goto (tgt := 5) X dX7_bytesIn_25 (by decide) ?_
          refine S_iload_n X dX7_bytesIn_5 rfl rfl ?_
          refine S_if_lt (tgt := 28) X dX7_bytesIn_6 (by decide) (by decide) (fun _ => ?_) (fun h9 => absurd h9 (by decide))
          refine S_iload_n X dX7_bytesIn_28 rfl rfl ?_
          exact S_iret X (nle rfl) (nle rfl) dX7_bytesIn_29 (hPo _ _ (⟨by unfold byn; omega, rfl⟩))
      ·
        have hz_c_6 := nz_1 c_6
        refine S_iincK (w := 1) X dX7_bytesIn_19 (nle rfl) rfl (by decide) ?_
        refine S_iincK (w := 0) X dX7_bytesIn_22 (nle rfl) rfl (by decide) ?_
        refine S_goto (tgt := 5) X dX7_bytesIn_25 (by decide) ?_
        refine S_iload_n X dX7_bytesIn_5 rfl rfl ?_
        refine S_if_lt (tgt := 28) X dX7_bytesIn_6 (by decide) (by decide) (fun h9 => absurd h9 (by decide)) (fun _ => ?_)
        refine S_iload_n X dX7_bytesIn_9 rfl rfl ?_
        refine S_iload_n X dX7_bytesIn_10 rfl rfl ?_
        refine S_iushr X dX7_bytesIn_11 ?_
        refine S_sipush X dX7_bytesIn_12 rfl ?_
        refine S_iand X dX7_bytesIn_15 ?_
        have hr_11 := zAnd_r (zUshr x 0) 255
        refine S_if_eq (tgt := 22) X dX7_bytesIn_16 (by decide) (by omega) (fun c_12 => ?_) (fun c_12 => ?_)
        ·
          have hz_c_12 := nz_0 c_12
          refine S_iincK (w := -8) X dX7_bytesIn_22 (nle rfl) rfl (by decide) ?_
          refine S_goto (tgt := 5) X dX7_bytesIn_25 (by decide) ?_
          refine S_iload_n X dX7_bytesIn_5 rfl rfl ?_
          refine S_if_lt (tgt := 28) X dX7_bytesIn_6 (by decide) (by decide) (fun _ => ?_) (fun h9 => absurd h9 (by decide))
          refine S_iload_n X dX7_bytesIn_28 rfl rfl ?_
          exact S_iret X (nle rfl) (nle rfl) dX7_bytesIn_29 (hPo _ _ (⟨by unfold byn; omega, rfl⟩))
        ·
          have hz_c_12 := nz_1 c_12
          refine S_iincK (w := 2) X dX7_bytesIn_19 (nle rfl) rfl (by decide) ?_
          refine S_iincK (w := -8) X dX7_bytesIn_22 (nle rfl) rfl (by decide) ?_
          refine S_goto (tgt := 5) X dX7_bytesIn_25 (by decide) ?_
          refine S_iload_n X dX7_bytesIn_5 rfl rfl ?_
          refine S_if_lt (tgt := 28) X dX7_bytesIn_6 (by decide) (by decide) (fun _ => ?_) (fun h9 => absurd h9 (by decide))
          refine S_iload_n X dX7_bytesIn_28 rfl rfl ?_
          exact S_iret X (nle rfl) (nle rfl) dX7_bytesIn_29 (hPo _ _ (⟨by unfold byn; omega, rfl⟩))
    ·
      have hz_c_4 := nz_1 c_4
      refine S_iincK (w := 1) X dX7_bytesIn_19 (nle rfl) rfl (by decide) ?_
      refine S_iincK (w := 8) X dX7_bytesIn_22 (nle rfl) rfl (by decide) ?_
      refine S_goto (tgt := 5) X dX7_bytesIn_25 (by decide) ?_
      refine S_iload_n X dX7_bytesIn_5 rfl rfl ?_
      refine S_if_lt (tgt := 28) X dX7_bytesIn_6 (by decide) (by decide) (fun h9 => absurd h9 (by decide)) (fun _ => ?_)
      refine S_iload_n X dX7_bytesIn_9 rfl rfl ?_
      refine S_iload_n X dX7_bytesIn_10 rfl rfl ?_
      refine S_iushr X dX7_bytesIn_11 ?_
      refine S_sipush X dX7_bytesIn_12 rfl ?_
      refine S_iand X dX7_bytesIn_15 ?_
      have hr_15 := zAnd_r (zUshr x 8) 255
      refine S_if_eq (tgt := 22) X dX7_bytesIn_16 (by decide) (by omega) (fun c_16 => ?_) (fun c_16 => ?_)
      ·
        have hz_c_16 := nz_0 c_16
        refine S_iincK (w := 0) X dX7_bytesIn_22 (nle rfl) rfl (by decide) ?_
        refine S_goto (tgt := 5) X dX7_bytesIn_25 (by decide) ?_
        refine S_iload_n X dX7_bytesIn_5 rfl rfl ?_
        refine S_if_lt (tgt := 28) X dX7_bytesIn_6 (by decide) (by decide) (fun h9 => absurd h9 (by decide)) (fun _ => ?_)
        refine S_iload_n X dX7_bytesIn_9 rfl rfl ?_
        refine S_iload_n X dX7_bytesIn_10 rfl rfl ?_
        refine S_iushr X dX7_bytesIn_11 ?_
        refine S_sipush X dX7_bytesIn_12 rfl ?_
        refine S_iand X dX7_bytesIn_15 ?_
        have hr_17 := zAnd_r (zUshr x 0) 255
        refine S_if_eq (tgt := 22) X dX7_bytesIn_16 (by decide) (by omega) (fun c_18 => ?_) (fun c_18 => ?_)
        ·
          have hz_c_18 := nz_0 c_18
          refine S_iincK (w := -8) X dX7_bytesIn_22 (nle rfl) rfl (by decide) ?_
          refine S_goto (tgt := 5) X dX7_bytesIn_25 (by decide) ?_
          refine S_iload_n X dX7_bytesIn_5 rfl rfl ?_
          refine S_if_lt (tgt := 28) X dX7_bytesIn_6 (by decide) (by decide) (fun _ => ?_) (fun h9 => absurd h9 (by decide))
          refine S_iload_n X dX7_bytesIn_28 rfl rfl ?_
          exact S_iret X (nle rfl) (nle rfl) dX7_bytesIn_29 (hPo _ _ (⟨by unfold byn; omega, rfl⟩))
        ·
          have hz_c_18 := nz_1 c_18
          refine S_iincK (w := 2) X dX7_bytesIn_19 (nle rfl) rfl (by decide) ?_
          refine S_iincK (w := -8) X dX7_bytesIn_22 (nle rfl) rfl (by decide) ?_
          refine S_goto (tgt := 5) X dX7_bytesIn_25 (by decide) ?_
          refine S_iload_n X dX7_bytesIn_5 rfl rfl ?_
          refine S_if_lt (tgt := 28) X dX7_bytesIn_6 (by decide) (by decide) (fun _ => ?_) (fun h9 => absurd h9 (by decide))
          refine S_iload_n X dX7_bytesIn_28 rfl rfl ?_
          exact S_iret X (nle rfl) (nle rfl) dX7_bytesIn_29 (hPo _ _ (⟨by unfold byn; omega, rfl⟩))
      ·
        have hz_c_16 := nz_1 c_16
        refine S_iincK (w := 2) X dX7_bytesIn_19 (nle rfl) rfl (by decide) ?_
        refine S_iincK (w := 0) X dX7_bytesIn_22 (nle rfl) rfl (by decide) ?_
        refine S_goto (tgt := 5) X dX7_bytesIn_25 (by decide) ?_
        refine S_iload_n X dX7_bytesIn_5 rfl rfl ?_
        refine S_if_lt (tgt := 28) X dX7_bytesIn_6 (by decide) (by decide) (fun h9 => absurd h9 (by decide)) (fun _ => ?_)
        refine S_iload_n X dX7_bytesIn_9 rfl rfl ?_
        refine S_iload_n X dX7_bytesIn_10 rfl rfl ?_
        refine S_iushr X dX7_bytesIn_11 ?_
        refine S_sipush X dX7_bytesIn_12 rfl ?_
        refine S_iand X dX7_bytesIn_15 ?_
        have hr_21 := zAnd_r (zUshr x 0) 255
        refine S_if_eq (tgt := 22) X dX7_bytesIn_16 (by decide) (by omega) (fun c_22 => ?_) (fun c_22 => ?_)
        ·
          have hz_c_22 := nz_0 c_22
          refine S_iincK (w := -8) X dX7_bytesIn_22 (nle rfl) rfl (by decide) ?_
          refine S_goto (tgt := 5) X dX7_bytesIn_25 (by decide) ?_
          refine S_iload_n X dX7_bytesIn_5 rfl rfl ?_
          refine S_if_lt (tgt := 28) X dX7_bytesIn_6 (by decide) (by decide) (fun _ => ?_) (fun h9 => absurd h9 (by decide))
          refine S_iload_n X dX7_bytesIn_28 rfl rfl ?_
          exact S_iret X (nle rfl) (nle rfl) dX7_bytesIn_29 (hPo _ _ (⟨by unfold byn; omega, rfl⟩))
        ·
          have hz_c_22 := nz_1 c_22
          refine S_iincK (w := 3) X dX7_bytesIn_19 (nle rfl) rfl (by decide) ?_
          refine S_iincK (w := -8) X dX7_bytesIn_22 (nle rfl) rfl (by decide) ?_
          refine S_goto (tgt := 5) X dX7_bytesIn_25 (by decide) ?_
          refine S_iload_n X dX7_bytesIn_5 rfl rfl ?_
          refine S_if_lt (tgt := 28) X dX7_bytesIn_6 (by decide) (by decide) (fun _ => ?_) (fun h9 => absurd h9 (by decide))
          refine S_iload_n X dX7_bytesIn_28 rfl rfl ?_
          exact S_iret X (nle rfl) (nle rfl) dX7_bytesIn_29 (hPo _ _ (⟨by unfold byn; omega, rfl⟩))
  ·
    have hz_c_2 := nz_1 c_2
    refine S_iincK (w := 1) X dX7_bytesIn_19 (nle rfl) rfl (by decide) ?_
    refine S_iincK (w := 16) X dX7_bytesIn_22 (nle rfl) rfl (by decide) ?_
    refine S_goto (tgt := 5) X dX7_bytesIn_25 (by decide) ?_
    refine S_iload_n X dX7_bytesIn_5 rfl rfl ?_
    refine S_if_lt (tgt := 28) X dX7_bytesIn_6 (by decide) (by decide) (fun h9 => absurd h9 (by decide)) (fun _ => ?_)
    refine S_iload_n X dX7_bytesIn_9 rfl rfl ?_
    refine S_iload_n X dX7_bytesIn_10 rfl rfl ?_
    refine S_iushr X dX7_bytesIn_11 ?_
    refine S_sipush X dX7_bytesIn_12 rfl ?_
    refine S_iand X dX7_bytesIn_15 ?_
    have hr_25 := zAnd_r (zUshr x 16) 255
    refine S_if_eq (tgt := 22) X dX7_bytesIn_16 (by decide) (by omega) (fun c_26 => ?_) (fun c_26 => ?_)
    ·
      have hz_c_26 := nz_0 c_26
      refine S_iincK (w := 8) X dX7_bytesIn_22 (nle rfl) rfl (by decide) ?_
      refine S_goto (tgt := 5) X dX7_bytesIn_25 (by decide) ?_
      refine S_iload_n X dX7_bytesIn_5 rfl rfl ?_
      refine S_if_lt (tgt := 28) X dX7_bytesIn_6 (by decide) (by decide) (fun h9 => absurd h9 (by decide)) (fun _ => ?_)
      refine S_iload_n X dX7_bytesIn_9 rfl rfl ?_
      refine S_iload_n X dX7_bytesIn_10 rfl rfl ?_
      refine S_iushr X dX7_bytesIn_11 ?_
      refine S_sipush X dX7_bytesIn_12 rfl ?_
      refine S_iand X dX7_bytesIn_15 ?_
      have hr_27 := zAnd_r (zUshr x 8) 255
      refine S_if_eq (tgt := 22) X dX7_bytesIn_16 (by decide) (by omega) (fun c_28 => ?_) (fun c_28 => ?_)
      ·
        have hz_c_28 := nz_0 c_28
        refine S_iincK (w := 0) X dX7_bytesIn_22 (nle rfl) rfl (by decide) ?_
        refine S_goto (tgt := 5) X dX7_bytesIn_25 (by decide) ?_
        refine S_iload_n X dX7_bytesIn_5 rfl rfl ?_
        refine S_if_lt (tgt := 28) X dX7_bytesIn_6 (by decide) (by decide) (fun h9 => absurd h9 (by decide)) (fun _ => ?_)
        refine S_iload_n X dX7_bytesIn_9 rfl rfl ?_
        refine S_iload_n X dX7_bytesIn_10 rfl rfl ?_
        refine S_iushr X dX7_bytesIn_11 ?_
        refine S_sipush X dX7_bytesIn_12 rfl ?_
        refine S_iand X dX7_bytesIn_15 ?_
        have hr_29 := zAnd_r (zUshr x 0) 255
        refine S_if_eq (tgt := 22) X dX7_bytesIn_16 (by decide) (by omega) (fun c_30 => ?_) (fun c_30 => ?_)
        ·
          have hz_c_30 := nz_0 c_30
          refine S_iincK (w := -8) X dX7_bytesIn_22 (nle rfl) rfl (by decide) ?_
          refine S_goto (tgt := 5) X dX7_bytesIn_25 (by decide) ?_
          refine S_iload_n X dX7_bytesIn_5 rfl rfl ?_
          refine S_if_lt (tgt := 28) X dX7_bytesIn_6 (by decide) (by decide) (fun _ => ?_) (fun h9 => absurd h9 (by decide))
          refine S_iload_n X dX7_bytesIn_28 rfl rfl ?_
          exact S_iret X (nle rfl) (nle rfl) dX7_bytesIn_29 (hPo _ _ (⟨by unfold byn; omega, rfl⟩))
        ·
          have hz_c_30 := nz_1 c_30
          refine S_iincK (w := 2) X dX7_bytesIn_19 (nle rfl) rfl (by decide) ?_
          refine S_iincK (w := -8) X dX7_bytesIn_22 (nle rfl) rfl (by decide) ?_
          refine S_goto (tgt := 5) X dX7_bytesIn_25 (by decide) ?_
          refine S_iload_n X dX7_bytesIn_5 rfl rfl ?_
          refine S_if_lt (tgt := 28) X dX7_bytesIn_6 (by decide) (by decide) (fun _ => ?_) (fun h9 => absurd h9 (by decide))
          refine S_iload_n X dX7_bytesIn_28 rfl rfl ?_
          exact S_iret X (nle rfl) (nle rfl) dX7_bytesIn_29 (hPo _ _ (⟨by unfold byn; omega, rfl⟩))
      ·
        have hz_c_28 := nz_1 c_28
        refine S_iincK (w := 2) X dX7_bytesIn_19 (nle rfl) rfl (by decide) ?_
        refine S_iincK (w := 0) X dX7_bytesIn_22 (nle rfl) rfl (by decide) ?_
        refine S_goto (tgt := 5) X dX7_bytesIn_25 (by decide) ?_
        refine S_iload_n X dX7_bytesIn_5 rfl rfl ?_
        refine S_if_lt (tgt := 28) X dX7_bytesIn_6 (by decide) (by decide) (fun h9 => absurd h9 (by decide)) (fun _ => ?_)
        refine S_iload_n X dX7_bytesIn_9 rfl rfl ?_
        refine S_iload_n X dX7_bytesIn_10 rfl rfl ?_
        refine S_iushr X dX7_bytesIn_11 ?_
        refine S_sipush X dX7_bytesIn_12 rfl ?_
        refine S_iand X dX7_bytesIn_15 ?_
        have hr_33 := zAnd_r (zUshr x 0) 255
        refine S_if_eq (tgt := 22) X dX7_bytesIn_16 (by decide) (by omega) (fun c_34 => ?_) (fun c_34 => ?_)
        ·
          have hz_c_34 := nz_0 c_34
          refine S_iincK (w := -8) X dX7_bytesIn_22 (nle rfl) rfl (by decide) ?_
          refine S_goto (tgt := 5) X dX7_bytesIn_25 (by decide) ?_
          refine S_iload_n X dX7_bytesIn_5 rfl rfl ?_
          refine S_if_lt (tgt := 28) X dX7_bytesIn_6 (by decide) (by decide) (fun _ => ?_) (fun h9 => absurd h9 (by decide))
          refine S_iload_n X dX7_bytesIn_28 rfl rfl ?_
          exact S_iret X (nle rfl) (nle rfl) dX7_bytesIn_29 (hPo _ _ (⟨by unfold byn; omega, rfl⟩))
        ·
          have hz_c_34 := nz_1 c_34
          refine S_iincK (w := 3) X dX7_bytesIn_19 (nle rfl) rfl (by decide) ?_
          refine S_iincK (w := -8) X dX7_bytesIn_22 (nle rfl) rfl (by decide) ?_
          refine S_goto (tgt := 5) X dX7_bytesIn_25 (by decide) ?_
          refine S_iload_n X dX7_bytesIn_5 rfl rfl ?_
          refine S_if_lt (tgt := 28) X dX7_bytesIn_6 (by decide) (by decide) (fun _ => ?_) (fun h9 => absurd h9 (by decide))
          refine S_iload_n X dX7_bytesIn_28 rfl rfl ?_
          exact S_iret X (nle rfl) (nle rfl) dX7_bytesIn_29 (hPo _ _ (⟨by unfold byn; omega, rfl⟩))
    ·
      have hz_c_26 := nz_1 c_26
      refine S_iincK (w := 2) X dX7_bytesIn_19 (nle rfl) rfl (by decide) ?_
      refine S_iincK (w := 8) X dX7_bytesIn_22 (nle rfl) rfl (by decide) ?_
      refine S_goto (tgt := 5) X dX7_bytesIn_25 (by decide) ?_
      refine S_iload_n X dX7_bytesIn_5 rfl rfl ?_
      refine S_if_lt (tgt := 28) X dX7_bytesIn_6 (by decide) (by decide) (fun h9 => absurd h9 (by decide)) (fun _ => ?_)
      refine S_iload_n X dX7_bytesIn_9 rfl rfl ?_
      refine S_iload_n X dX7_bytesIn_10 rfl rfl ?_
      refine S_iushr X dX7_bytesIn_11 ?_
      refine S_sipush X dX7_bytesIn_12 rfl ?_
      refine S_iand X dX7_bytesIn_15 ?_
      have hr_37 := zAnd_r (zUshr x 8) 255
      refine S_if_eq (tgt := 22) X dX7_bytesIn_16 (by decide) (by omega) (fun c_38 => ?_) (fun c_38 => ?_)
      ·
        have hz_c_38 := nz_0 c_38
        refine S_iincK (w := 0) X dX7_bytesIn_22 (nle rfl) rfl (by decide) ?_
        refine S_goto (tgt := 5) X dX7_bytesIn_25 (by decide) ?_
        refine S_iload_n X dX7_bytesIn_5 rfl rfl ?_
        refine S_if_lt (tgt := 28) X dX7_bytesIn_6 (by decide) (by decide) (fun h9 => absurd h9 (by decide)) (fun _ => ?_)
        refine S_iload_n X dX7_bytesIn_9 rfl rfl ?_
        refine S_iload_n X dX7_bytesIn_10 rfl rfl ?_
        refine S_iushr X dX7_bytesIn_11 ?_
        refine S_sipush X dX7_bytesIn_12 rfl ?_
        refine S_iand X dX7_bytesIn_15 ?_
        have hr_39 := zAnd_r (zUshr x 0) 255
        refine S_if_eq (tgt := 22) X dX7_bytesIn_16 (by decide) (by omega) (fun c_40 => ?_) (fun c_40 => ?_)
        ·
          have hz_c_40 := nz_0 c_40
          refine S_iincK (w := -8) X dX7_bytesIn_22 (nle rfl) rfl (by decide) ?_
          refine S_goto (tgt := 5) X dX7_bytesIn_25 (by decide) ?_
          refine S_iload_n X dX7_bytesIn_5 rfl rfl ?_
          refine S_if_lt (tgt := 28) X dX7_bytesIn_6 (by decide) (by decide) (fun _ => ?_) (fun h9 => absurd h9 (by decide))
          refine S_iload_n X dX7_bytesIn_28 rfl rfl ?_
          exact S_iret X (nle rfl) (nle rfl) dX7_bytesIn_29 (hPo _ _ (⟨by unfold byn; omega, rfl⟩))
        ·
          have hz_c_40 := nz_1 c_40
          refine S_iincK (w := 3) X dX7_bytesIn_19 (nle rfl) rfl (by decide) ?_
          refine S_iincK (w := -8) X dX7_bytesIn_22 (nle rfl) rfl (by decide) ?_
          refine S_goto (tgt := 5) X dX7_bytesIn_25 (by decide) ?_
          refine S_iload_n X dX7_bytesIn_5 rfl rfl ?_
          refine S_if_lt (tgt := 28) X dX7_bytesIn_6 (by decide) (by decide) (fun _ => ?_) (fun h9 => absurd h9 (by decide))
          refine S_iload_n X dX7_bytesIn_28 rfl rfl ?_
          exact S_iret X (nle rfl) (nle rfl) dX7_bytesIn_29 (hPo _ _ (⟨by unfold byn; omega, rfl⟩))
      ·
        have hz_c_38 := nz_1 c_38
        refine S_iincK (w := 3) X dX7_bytesIn_19 (nle rfl) rfl (by decide) ?_
        refine S_iincK (w := 0) X dX7_bytesIn_22 (nle rfl) rfl (by decide) ?_
        refine S_goto (tgt := 5) X dX7_bytesIn_25 (by decide) ?_
        refine S_iload_n X dX7_bytesIn_5 rfl rfl ?_
        refine S_if_lt (tgt := 28) X dX7_bytesIn_6 (by decide) (by decide) (fun h9 => absurd h9 (by decide)) (fun _ => ?_)
        refine S_iload_n X dX7_bytesIn_9 rfl rfl ?_
        refine S_iload_n X dX7_bytesIn_10 rfl rfl ?_
        refine S_iushr X dX7_bytesIn_11 ?_
        refine S_sipush X dX7_bytesIn_12 rfl ?_
        refine S_iand X dX7_bytesIn_15 ?_
        have hr_43 := zAnd_r (zUshr x 0) 255
        refine S_if_eq (tgt := 22) X dX7_bytesIn_16 (by decide) (by omega) (fun c_44 => ?_) (fun c_44 => ?_)
        ·
          have hz_c_44 := nz_0 c_44
          refine S_iincK (w := -8) X dX7_bytesIn_22 (nle rfl) rfl (by decide) ?_
          refine S_goto (tgt := 5) X dX7_bytesIn_25 (by decide) ?_
          refine S_iload_n X dX7_bytesIn_5 rfl rfl ?_
          refine S_if_lt (tgt := 28) X dX7_bytesIn_6 (by decide) (by decide) (fun _ => ?_) (fun h9 => absurd h9 (by decide))
          refine S_iload_n X dX7_bytesIn_28 rfl rfl ?_
          exact S_iret X (nle rfl) (nle rfl) dX7_bytesIn_29 (hPo _ _ (⟨by unfold byn; omega, rfl⟩))
        ·
          have hz_c_44 := nz_1 c_44
          refine S_iincK (w := 4) X dX7_bytesIn_19 (nle rfl) rfl (by decide) ?_
          refine S_iincK (w := -8) X dX7_bytesIn_22 (nle rfl) rfl (by decide) ?_
          refine S_goto (tgt := 5) X dX7_bytesIn_25 (by decide) ?_
          refine S_iload_n X dX7_bytesIn_5 rfl rfl ?_
          refine S_if_lt (tgt := 28) X dX7_bytesIn_6 (by decide) (by decide) (fun _ => ?_) (fun h9 => absurd h9 (by decide))
          refine S_iload_n X dX7_bytesIn_28 rfl rfl ?_
          exact S_iret X (nle rfl) (nle rfl) dX7_bytesIn_29 (hPo _ _ (⟨by unfold byn; omega, rfl⟩))
set_option maxHeartbeats 4000000 in
set_option maxRecDepth 100000 in
theorem kX7_push (l : Launch) (h0 : Nat) (hb : Nat) (f : Nat → AV) (T : Int → Int) (n : Int) (x : Int) (hf0 : f 0 = rv hb) (hn : 0 ≤ n ∧ n + byn x ≤ 160) : AMv l yX7_push cX7_push 4 0 0 0 [rv h0, iv x] [(h0, ob 6 (uF f 1 (iv n))), (hb, ar 160 T)] (fun u => ∃ n2 : Int, ∃ T2 : Int → Int, u = [(h0, ob 6 (uF f 1 (iv n2))), (hb, ar 160 T2)] ∧ n2 = n + byn x ∧ T2 = wrL T n (bys x)) := by
  refine AMv.of2 rfl (nle rfl) ?_
  intro D G A p e s m args below meth c Po hPo hnm X
  unfold byn at hn
  have hn24 := nz_in (zAnd (zUshr x 24) 255)
  have hn16 := nz_in (zAnd (zUshr x 16) 255)
  have hn8 := nz_in (zAnd (zUshr x 8) 255)
  have hn0 := nz_in (zAnd (zUshr x 0) 255)
  refine S_bipush X dX7_push_0 rfl ?_
  refine S_istore_n X dX7_push_2 rfl (nle rfl) ?_
  refine S_iload_n X dX7_push_3 rfl rfl ?_
  refine S_if_lt (tgt := 55) X dX7_push_4 (by decide) (by decide) (fun h9 => absurd h9 (by decide)) (fun _ => ?_)
  refine S_iload_n X dX7_push_7 rfl rfl ?_
  refine S_iload_n X dX7_push_8 rfl rfl ?_
  refine S_iushr X dX7_push_9 ?_
  refine S_sipush X dX7_push_10 rfl ?_
  refine S_iand X dX7_push_13 ?_
  refine S_istore_n X dX7_push_14 rfl (nle rfl) ?_
  refine S_iload_n X dX7_push_15 rfl rfl ?_
  have hr_1 := zAnd_r (zUshr x 24) 255
  refine S_if_eq (tgt := 49) X dX7_push_16 (by decide) (by omega) (fun c_2 => ?_) (fun c_2 => ?_)
  ·
    have hz_c_2 := nz_0 c_2
    refine S_iincK (w := 16) X dX7_push_49 (nle rfl) rfl (by decide) ?_
    refine S_goto (tgt := 3) X dX7_push_52 (by decide) ?_
    refine S_iload_n X dX7_push_3 rfl rfl ?_
    refine S_if_lt (tgt := 55) X dX7_push_4 (by decide) (by decide) (fun h9 => absurd h9 (by decide)) (fun _ => ?_)
    refine S_iload_n X dX7_push_7 rfl rfl ?_
    refine S_iload_n X dX7_push_8 rfl rfl ?_
    refine S_iushr X dX7_push_9 ?_
    refine S_sipush X dX7_push_10 rfl ?_
    refine S_iand X dX7_push_13 ?_
    refine S_istore_n X dX7_push_14 rfl (nle rfl) ?_
    refine S_iload_n X dX7_push_15 rfl rfl ?_
    have hr_3 := zAnd_r (zUshr x 16) 255
    refine S_if_eq (tgt := 49) X dX7_push_16 (by decide) (by omega) (fun c_4 => ?_) (fun c_4 => ?_)
    ·
      have hz_c_4 := nz_0 c_4
      refine S_iincK (w := 8) X dX7_push_49 (nle rfl) rfl (by decide) ?_
      refine S_goto (tgt := 3) X dX7_push_52 (by decide) ?_
      refine S_iload_n X dX7_push_3 rfl rfl ?_
      refine S_if_lt (tgt := 55) X dX7_push_4 (by decide) (by decide) (fun h9 => absurd h9 (by decide)) (fun _ => ?_)
      refine S_iload_n X dX7_push_7 rfl rfl ?_
      refine S_iload_n X dX7_push_8 rfl rfl ?_
      refine S_iushr X dX7_push_9 ?_
      refine S_sipush X dX7_push_10 rfl ?_
      refine S_iand X dX7_push_13 ?_
      refine S_istore_n X dX7_push_14 rfl (nle rfl) ?_
      refine S_iload_n X dX7_push_15 rfl rfl ?_
      have hr_5 := zAnd_r (zUshr x 8) 255
      refine S_if_eq (tgt := 49) X dX7_push_16 (by decide) (by omega) (fun c_6 => ?_) (fun c_6 => ?_)
      ·
        have hz_c_6 := nz_0 c_6
        refine S_iincK (w := 0) X dX7_push_49 (nle rfl) rfl (by decide) ?_
        refine S_goto (tgt := 3) X dX7_push_52 (by decide) ?_
        refine S_iload_n X dX7_push_3 rfl rfl ?_
        refine S_if_lt (tgt := 55) X dX7_push_4 (by decide) (by decide) (fun h9 => absurd h9 (by decide)) (fun _ => ?_)
        refine S_iload_n X dX7_push_7 rfl rfl ?_
        refine S_iload_n X dX7_push_8 rfl rfl ?_
        refine S_iushr X dX7_push_9 ?_
        refine S_sipush X dX7_push_10 rfl ?_
        refine S_iand X dX7_push_13 ?_
        refine S_istore_n X dX7_push_14 rfl (nle rfl) ?_
        refine S_iload_n X dX7_push_15 rfl rfl ?_
        have hr_7 := zAnd_r (zUshr x 0) 255
        refine S_if_eq (tgt := 49) X dX7_push_16 (by decide) (by omega) (fun c_8 => ?_) (fun c_8 => ?_)
        ·
          have hz_c_8 := nz_0 c_8
          refine S_iincK (w := -8) X dX7_push_49 (nle rfl) rfl (by decide) ?_
          refine S_goto (tgt := 3) X dX7_push_52 (by decide) ?_
          refine S_iload_n X dX7_push_3 rfl rfl ?_
          refine S_if_lt (tgt := 55) X dX7_push_4 (by decide) (by decide) (fun _ => ?_) (fun h9 => absurd h9 (by decide))
          exact S_vret X (nle rfl) (nle rfl) dX7_push_55 (hPo _ (⟨_, _, rfl, by unfold byn; omega, by simp only [bys, cNZ_0 c_2, cNZ_0 c_4, cNZ_0 c_6, cNZ_0 c_8, wrL]⟩))
        ·
          have hz_c_8 := nz_1 c_8
          refine S_aload_n X dX7_push_19 rfl rfl ?_
          refine S_get (v := iv n) X fgX7_13_6 0 rfl rfl dX7_push_20 ?_
          refine S_sipush X dX7_push_23 rfl ?_
          refine S_icmp_ge (tgt := 49) X dX7_push_26 (by decide) (by omega) (by decide) (fun c_10 => by exfalso; omega) (fun c_10 => ?_)
          refine S_aload_n X dX7_push_29 rfl rfl ?_
          refine S_get X fgX7_9_6 0 rfl hf0 dX7_push_30 ?_
          refine S_aload_n X dX7_push_33 rfl rfl ?_
          refine S_get (v := iv n) X fgX7_13_6 0 rfl rfl dX7_push_34 ?_
          refine S_iload_n X dX7_push_37 rfl rfl ?_
          refine S_iast X 1 rfl (by omega) (by omega) (nle rfl) dX7_push_38 ?_
          refine S_w (ws' := [(h0, ob 6 (uF f 1 (iv n))), (hb, ar 160 (uZ T n (zAnd (zUshr x 0) 255)))]) rfl ?_
          refine S_aload_n X dX7_push_39 rfl rfl ?_
          refine S_dup X dX7_push_40 ?_
          refine S_get (v := iv n) X fgX7_13_6 0 rfl rfl dX7_push_41 ?_
          refine S_iconst X dX7_push_44 ?_
          refine S_iadd X dX7_push_45 ?_
          refine S_put X fpX7_13_6 0 rfl FT_i dX7_push_46 ?_
          refine S_w (ws' := [(h0, ob 6 (uF f 1 (iv (n + 1)))), (hb, ar 160 (uZ T n (zAnd (zUshr x 0) 255)))]) (by simp only [List.set]; rw [uF_same (k := 1)]) ?_
          refine S_iincK (w := -8) X dX7_push_49 (nle rfl) rfl (by decide) ?_
          refine S_goto (tgt := 3) X dX7_push_52 (by decide) ?_
          refine S_iload_n X dX7_push_3 rfl rfl ?_
          refine S_if_lt (tgt := 55) X dX7_push_4 (by decide) (by decide) (fun _ => ?_) (fun h9 => absurd h9 (by decide))
          exact S_vret X (nle rfl) (nle rfl) dX7_push_55 (hPo _ (⟨_, _, rfl, by unfold byn; omega, by simp only [bys, cNZ_0 c_2, cNZ_0 c_4, cNZ_0 c_6, cNZ_1 c_8, wrL]⟩))
      ·
        have hz_c_6 := nz_1 c_6
        refine S_aload_n X dX7_push_19 rfl rfl ?_
        refine S_get (v := iv n) X fgX7_13_6 0 rfl rfl dX7_push_20 ?_
        refine S_sipush X dX7_push_23 rfl ?_
        refine S_icmp_ge (tgt := 49) X dX7_push_26 (by decide) (by omega) (by decide) (fun c_12 => by exfalso; omega) (fun c_12 => ?_)
        refine S_aload_n X dX7_push_29 rfl rfl ?_
        refine S_get X fgX7_9_6 0 rfl hf0 dX7_push_30 ?_
        refine S_aload_n X dX7_push_33 rfl rfl ?_
        refine S_get (v := iv n) X fgX7_13_6 0 rfl rfl dX7_push_34 ?_
        refine S_iload_n X dX7_push_37 rfl rfl ?_
        refine S_iast X 1 rfl (by omega) (by omega) (nle rfl) dX7_push_38 ?_
        refine S_w (ws' := [(h0, ob 6 (uF f 1 (iv n))), (hb, ar 160 (uZ T n (zAnd (zUshr x 8) 255)))]) rfl ?_
        refine S_aload_n X dX7_push_39 rfl rfl ?_
        refine S_dup X dX7_push_40 ?_
        refine S_get (v := iv n) X fgX7_13_6 0 rfl rfl dX7_push_41 ?_
        refine S_iconst X dX7_push_44 ?_
        refine S_iadd X dX7_push_45 ?_
        refine S_put X fpX7_13_6 0 rfl FT_i dX7_push_46 ?_
        refine S_w (ws' := [(h0, ob 6 (uF f 1 (iv (n + 1)))), (hb, ar 160 (uZ T n (zAnd (zUshr x 8) 255)))]) (by simp only [List.set]; rw [uF_same (k := 1)]) ?_
        refine S_iincK (w := 0) X dX7_push_49 (nle rfl) rfl (by decide) ?_
        refine S_goto (tgt := 3) X dX7_push_52 (by decide) ?_
        refine S_iload_n X dX7_push_3 rfl rfl ?_
        refine S_if_lt (tgt := 55) X dX7_push_4 (by decide) (by decide) (fun h9 => absurd h9 (by decide)) (fun _ => ?_)
        refine S_iload_n X dX7_push_7 rfl rfl ?_
        refine S_iload_n X dX7_push_8 rfl rfl ?_
        refine S_iushr X dX7_push_9 ?_
        refine S_sipush X dX7_push_10 rfl ?_
        refine S_iand X dX7_push_13 ?_
        refine S_istore_n X dX7_push_14 rfl (nle rfl) ?_
        refine S_iload_n X dX7_push_15 rfl rfl ?_
        have hr_13 := zAnd_r (zUshr x 0) 255
        refine S_if_eq (tgt := 49) X dX7_push_16 (by decide) (by omega) (fun c_14 => ?_) (fun c_14 => ?_)
        ·
          have hz_c_14 := nz_0 c_14
          refine S_iincK (w := -8) X dX7_push_49 (nle rfl) rfl (by decide) ?_
          refine S_goto (tgt := 3) X dX7_push_52 (by decide) ?_
          refine S_iload_n X dX7_push_3 rfl rfl ?_
          refine S_if_lt (tgt := 55) X dX7_push_4 (by decide) (by decide) (fun _ => ?_) (fun h9 => absurd h9 (by decide))
          exact S_vret X (nle rfl) (nle rfl) dX7_push_55 (hPo _ (⟨_, _, rfl, by unfold byn; omega, by simp only [bys, cNZ_0 c_2, cNZ_0 c_4, cNZ_1 c_6, cNZ_0 c_14, wrL]⟩))
        ·
          have hz_c_14 := nz_1 c_14
          refine S_aload_n X dX7_push_19 rfl rfl ?_
          refine S_get (v := iv (n + 1)) X fgX7_13_6 0 rfl rfl dX7_push_20 ?_
          refine S_sipush X dX7_push_23 rfl ?_
          refine S_icmp_ge (tgt := 49) X dX7_push_26 (by decide) (by omega) (by decide) (fun c_16 => by exfalso; omega) (fun c_16 => ?_)
          refine S_aload_n X dX7_push_29 rfl rfl ?_
          refine S_get X fgX7_9_6 0 rfl hf0 dX7_push_30 ?_
          refine S_aload_n X dX7_push_33 rfl rfl ?_
          refine S_get (v := iv (n + 1)) X fgX7_13_6 0 rfl rfl dX7_push_34 ?_
          refine S_iload_n X dX7_push_37 rfl rfl ?_
          refine S_iast X 1 rfl (by omega) (by omega) (nle rfl) dX7_push_38 ?_
          refine S_w (ws' := [(h0, ob 6 (uF f 1 (iv (n + 1)))), (hb, ar 160 (uZ (uZ T n (zAnd (zUshr x 8) 255)) (n + 1) (zAnd (zUshr x 0) 255)))]) rfl ?_
          refine S_aload_n X dX7_push_39 rfl rfl ?_
          refine S_dup X dX7_push_40 ?_
          refine S_get (v := iv (n + 1)) X fgX7_13_6 0 rfl rfl dX7_push_41 ?_
          refine S_iconst X dX7_push_44 ?_
          refine S_iadd X dX7_push_45 ?_
          refine S_put X fpX7_13_6 0 rfl FT_i dX7_push_46 ?_
          refine S_w (ws' := [(h0, ob 6 (uF f 1 (iv ((n + 1) + 1)))), (hb, ar 160 (uZ (uZ T n (zAnd (zUshr x 8) 255)) (n + 1) (zAnd (zUshr x 0) 255)))]) (by simp only [List.set]; rw [uF_same (k := 1)]) ?_
          refine S_iincK (w := -8) X dX7_push_49 (nle rfl) rfl (by decide) ?_
          refine S_goto (tgt := 3) X dX7_push_52 (by decide) ?_
          refine S_iload_n X dX7_push_3 rfl rfl ?_
          refine S_if_lt (tgt := 55) X dX7_push_4 (by decide) (by decide) (fun _ => ?_) (fun h9 => absurd h9 (by decide))
          exact S_vret X (nle rfl) (nle rfl) dX7_push_55 (hPo _ (⟨_, _, rfl, by unfold byn; omega, by simp only [bys, cNZ_0 c_2, cNZ_0 c_4, cNZ_1 c_6, cNZ_1 c_14, wrL]⟩))
    ·
      have hz_c_4 := nz_1 c_4
      refine S_aload_n X dX7_push_19 rfl rfl ?_
      refine S_get (v := iv n) X fgX7_13_6 0 rfl rfl dX7_push_20 ?_
      refine S_sipush X dX7_push_23 rfl ?_
      refine S_icmp_ge (tgt := 49) X dX7_push_26 (by decide) (by omega) (by decide) (fun c_18 => by exfalso; omega) (fun c_18 => ?_)
      refine S_aload_n X dX7_push_29 rfl rfl ?_
      refine S_get X fgX7_9_6 0 rfl hf0 dX7_push_30 ?_
      refine S_aload_n X dX7_push_33 rfl rfl ?_
      refine S_get (v := iv n) X fgX7_13_6 0 rfl rfl dX7_push_34 ?_
      refine S_iload_n X dX7_push_37 rfl rfl ?_
      refine S_iast X 1 rfl (by omega) (by omega) (nle rfl) dX7_push_38 ?_
      refine S_w (ws' := [(h0, ob 6 (uF f 1 (iv n))), (hb, ar 160 (uZ T n (zAnd (zUshr x 16) 255)))]) rfl ?_
      refine S_aload_n X dX7_push_39 rfl rfl ?_
      refine S_dup X dX7_push_40 ?_
      refine S_get (v := iv n) X fgX7_13_6 0 rfl rfl dX7_push_41 ?_
      refine S_iconst X dX7_push_44 ?_
      refine S_iadd X dX7_push_45 ?_
      refine S_put X fpX7_13_6 0 rfl FT_i dX7_push_46 ?_
      refine S_w (ws' := [(h0, ob 6 (uF f 1 (iv (n + 1)))), (hb, ar 160 (uZ T n (zAnd (zUshr x 16) 255)))]) (by simp only [List.set]; rw [uF_same (k := 1)]) ?_
      refine S_iincK (w := 8) X dX7_push_49 (nle rfl) rfl (by decide) ?_
      refine S_goto (tgt := 3) X dX7_push_52 (by decide) ?_
      refine S_iload_n X dX7_push_3 rfl rfl ?_
      refine S_if_lt (tgt := 55) X dX7_push_4 (by decide) (by decide) (fun h9 => absurd h9 (by decide)) (fun _ => ?_)
      refine S_iload_n X dX7_push_7 rfl rfl ?_
      refine S_iload_n X dX7_push_8 rfl rfl ?_
      refine S_iushr X dX7_push_9 ?_
      refine S_sipush X dX7_push_10 rfl ?_
      refine S_iand X dX7_push_13 ?_
      refine S_istore_n X dX7_push_14 rfl (nle rfl) ?_
      refine S_iload_n X dX7_push_15 rfl rfl ?_
      have hr_19 := zAnd_r (zUshr x 8) 255
      refine S_if_eq (tgt := 49) X dX7_push_16 (by decide) (by omega) (fun c_20 => ?_) (fun c_20 => ?_)
      ·
        have hz_c_20 := nz_0 c_20
        refine S_iincK (w := 0) X dX7_push_49 (nle rfl) rfl (by decide) ?_
        refine S_goto (tgt := 3) X dX7_push_52 (by decide) ?_
        refine S_iload_n X dX7_push_3 rfl rfl ?_
        refine S_if_lt (tgt := 55) X dX7_push_4 (by decide) (by decide) (fun h9 => absurd h9 (by decide)) (fun _ => ?_)
        refine S_iload_n X dX7_push_7 rfl rfl ?_
        refine S_iload_n X dX7_push_8 rfl rfl ?_
        refine S_iushr X dX7_push_9 ?_
        refine S_sipush X dX7_push_10 rfl ?_
        refine S_iand X dX7_push_13 ?_
        refine S_istore_n X dX7_push_14 rfl (nle rfl) ?_
        refine S_iload_n X dX7_push_15 rfl rfl ?_
        have hr_21 := zAnd_r (zUshr x 0) 255
        refine S_if_eq (tgt := 49) X dX7_push_16 (by decide) (by omega) (fun c_22 => ?_) (fun c_22 => ?_)
        ·
          have hz_c_22 := nz_0 c_22
          refine S_iincK (w := -8) X dX7_push_49 (nle rfl) rfl (by decide) ?_
          refine S_goto (tgt := 3) X dX7_push_52 (by decide) ?_
          refine S_iload_n X dX7_push_3 rfl rfl ?_
          refine S_if_lt (tgt := 55) X dX7_push_4 (by decide) (by decide) (fun _ => ?_) (fun h9 => absurd h9 (by decide))
          exact S_vret X (nle rfl) (nle rfl) dX7_push_55 (hPo _ (⟨_, _, rfl, by unfold byn; omega, by simp only [bys, cNZ_0 c_2, cNZ_1 c_4, cNZ_0 c_20, cNZ_0 c_22, wrL]⟩))
        ·
          have hz_c_22 := nz_1 c_22
          refine S_aload_n X dX7_push_19 rfl rfl ?_
          refine S_get (v := iv (n + 1)) X fgX7_13_6 0 rfl rfl dX7_push_20 ?_
          refine S_sipush X dX7_push_23 rfl ?_
          refine S_icmp_ge (tgt := 49) X dX7_push_26 (by decide) (by omega) (by decide) (fun c_24 => by exfalso; omega) (fun c_24 => ?_)
          refine S_aload_n X dX7_push_29 rfl rfl ?_
          refine S_get X fgX7_9_6 0 rfl hf0 dX7_push_30 ?_
          refine S_aload_n X dX7_push_33 rfl rfl ?_
          refine S_get (v := iv (n + 1)) X fgX7_13_6 0 rfl rfl dX7_push_34 ?_
          refine S_iload_n X dX7_push_37 rfl rfl ?_
          refine S_iast X 1 rfl (by omega) (by omega) (nle rfl) dX7_push_38 ?_
          refine S_w (ws' := [(h0, ob 6 (uF f 1 (iv (n + 1)))), (hb, ar 160 (uZ (uZ T n (zAnd (zUshr x 16) 255)) (n + 1) (zAnd (zUshr x 0) 255)))]) rfl ?_
          refine S_aload_n X dX7_push_39 rfl rfl ?_
          refine S_dup X dX7_push_40 ?_
          refine S_get (v := iv (n + 1)) X fgX7_13_6 0 rfl rfl dX7_push_41 ?_
          refine S_iconst X dX7_push_44 ?_
          refine S_iadd X dX7_push_45 ?_
          refine S_put X fpX7_13_6 0 rfl FT_i dX7_push_46 ?_
          refine S_w (ws' := [(h0, ob 6 (uF f 1 (iv ((n + 1) + 1)))), (hb, ar 160 (uZ (uZ T n (zAnd (zUshr x 16) 255)) (n + 1) (zAnd (zUshr x 0) 255)))]) (by simp only [List.set]; rw [uF_same (k := 1)]) ?_
          refine S_iincK (w := -8) X dX7_push_49 (nle rfl) rfl (by decide) ?_
          refine S_goto (tgt := 3) X dX7_push_52 (by decide) ?_
          refine S_iload_n X dX7_push_3 rfl rfl ?_
          refine S_if_lt (tgt := 55) X dX7_push_4 (by decide) (by decide) (fun _ => ?_) (fun h9 => absurd h9 (by decide))
          exact S_vret X (nle rfl) (nle rfl) dX7_push_55 (hPo _ (⟨_, _, rfl, by unfold byn; omega, by simp only [bys, cNZ_0 c_2, cNZ_1 c_4, cNZ_0 c_20, cNZ_1 c_22, wrL]⟩))
      ·
        have hz_c_20 := nz_1 c_20
        refine S_aload_n X dX7_push_19 rfl rfl ?_
        refine S_get (v := iv (n + 1)) X fgX7_13_6 0 rfl rfl dX7_push_20 ?_
        refine S_sipush X dX7_push_23 rfl ?_
        refine S_icmp_ge (tgt := 49) X dX7_push_26 (by decide) (by omega) (by decide) (fun c_26 => by exfalso; omega) (fun c_26 => ?_)
        refine S_aload_n X dX7_push_29 rfl rfl ?_
        refine S_get X fgX7_9_6 0 rfl hf0 dX7_push_30 ?_
        refine S_aload_n X dX7_push_33 rfl rfl ?_
        refine S_get (v := iv (n + 1)) X fgX7_13_6 0 rfl rfl dX7_push_34 ?_
        refine S_iload_n X dX7_push_37 rfl rfl ?_
        refine S_iast X 1 rfl (by omega) (by omega) (nle rfl) dX7_push_38 ?_
        refine S_w (ws' := [(h0, ob 6 (uF f 1 (iv (n + 1)))), (hb, ar 160 (uZ (uZ T n (zAnd (zUshr x 16) 255)) (n + 1) (zAnd (zUshr x 8) 255)))]) rfl ?_
        refine S_aload_n X dX7_push_39 rfl rfl ?_
        refine S_dup X dX7_push_40 ?_
        refine S_get (v := iv (n + 1)) X fgX7_13_6 0 rfl rfl dX7_push_41 ?_
        refine S_iconst X dX7_push_44 ?_
        refine S_iadd X dX7_push_45 ?_
        refine S_put X fpX7_13_6 0 rfl FT_i dX7_push_46 ?_
        refine S_w (ws' := [(h0, ob 6 (uF f 1 (iv ((n + 1) + 1)))), (hb, ar 160 (uZ (uZ T n (zAnd (zUshr x 16) 255)) (n + 1) (zAnd (zUshr x 8) 255)))]) (by simp only [List.set]; rw [uF_same (k := 1)]) ?_
        refine S_iincK (w := 0) X dX7_push_49 (nle rfl) rfl (by decide) ?_
        refine S_goto (tgt := 3) X dX7_push_52 (by decide) ?_
        refine S_iload_n X dX7_push_3 rfl rfl ?_
        refine S_if_lt (tgt := 55) X dX7_push_4 (by decide) (by decide) (fun h9 => absurd h9 (by decide)) (fun _ => ?_)
        refine S_iload_n X dX7_push_7 rfl rfl ?_
        refine S_iload_n X dX7_push_8 rfl rfl ?_
        refine S_iushr X dX7_push_9 ?_
        refine S_sipush X dX7_push_10 rfl ?_
        refine S_iand X dX7_push_13 ?_
        refine S_istore_n X dX7_push_14 rfl (nle rfl) ?_
        refine S_iload_n X dX7_push_15 rfl rfl ?_
        have hr_27 := zAnd_r (zUshr x 0) 255
        refine S_if_eq (tgt := 49) X dX7_push_16 (by decide) (by omega) (fun c_28 => ?_) (fun c_28 => ?_)
        ·
          have hz_c_28 := nz_0 c_28
          refine S_iincK (w := -8) X dX7_push_49 (nle rfl) rfl (by decide) ?_
          refine S_goto (tgt := 3) X dX7_push_52 (by decide) ?_
          refine S_iload_n X dX7_push_3 rfl rfl ?_
          refine S_if_lt (tgt := 55) X dX7_push_4 (by decide) (by decide) (fun _ => ?_) (fun h9 => absurd h9 (by decide))
          exact S_vret X (nle rfl) (nle rfl) dX7_push_55 (hPo _ (⟨_, _, rfl, by unfold byn; omega, by simp only [bys, cNZ_0 c_2, cNZ_1 c_4, cNZ_1 c_20, cNZ_0 c_28, wrL]⟩))
        ·
          have hz_c_28 := nz_1 c_28
          refine S_aload_n X dX7_push_19 rfl rfl ?_
          refine S_get (v := iv ((n + 1) + 1)) X fgX7_13_6 0 rfl rfl dX7_push_20 ?_
          refine S_sipush X dX7_push_23 rfl ?_
          refine S_icmp_ge (tgt := 49) X dX7_push_26 (by decide) (by omega) (by decide) (fun c_30 => by exfalso; omega) (fun c_30 => ?_)
          refine S_aload_n X dX7_push_29 rfl rfl ?_
          refine S_get X fgX7_9_6 0 rfl hf0 dX7_push_30 ?_
          refine S_aload_n X dX7_push_33 rfl rfl ?_
          refine S_get (v := iv ((n + 1) + 1)) X fgX7_13_6 0 rfl rfl dX7_push_34 ?_
          refine S_iload_n X dX7_push_37 rfl rfl ?_
          refine S_iast X 1 rfl (by omega) (by omega) (nle rfl) dX7_push_38 ?_
          refine S_w (ws' := [(h0, ob 6 (uF f 1 (iv ((n + 1) + 1)))), (hb, ar 160 (uZ (uZ (uZ T n (zAnd (zUshr x 16) 255)) (n + 1) (zAnd (zUshr x 8) 255)) ((n + 1) + 1) (zAnd (zUshr x 0) 255)))]) rfl ?_
          refine S_aload_n X dX7_push_39 rfl rfl ?_
          refine S_dup X dX7_push_40 ?_
          refine S_get (v := iv ((n + 1) + 1)) X fgX7_13_6 0 rfl rfl dX7_push_41 ?_
          refine S_iconst X dX7_push_44 ?_
          refine S_iadd X dX7_push_45 ?_
          refine S_put X fpX7_13_6 0 rfl FT_i dX7_push_46 ?_
          refine S_w (ws' := [(h0, ob 6 (uF f 1 (iv (((n + 1) + 1) + 1)))), (hb, ar 160 (uZ (uZ (uZ T n (zAnd (zUshr x 16) 255)) (n + 1) (zAnd (zUshr x 8) 255)) ((n + 1) + 1) (zAnd (zUshr x 0) 255)))]) (by simp only [List.set]; rw [uF_same (k := 1)]) ?_
          refine S_iincK (w := -8) X dX7_push_49 (nle rfl) rfl (by decide) ?_
          refine S_goto (tgt := 3) X dX7_push_52 (by decide) ?_
          refine S_iload_n X dX7_push_3 rfl rfl ?_
          refine S_if_lt (tgt := 55) X dX7_push_4 (by decide) (by decide) (fun _ => ?_) (fun h9 => absurd h9 (by decide))
          exact S_vret X (nle rfl) (nle rfl) dX7_push_55 (hPo _ (⟨_, _, rfl, by unfold byn; omega, by simp only [bys, cNZ_0 c_2, cNZ_1 c_4, cNZ_1 c_20, cNZ_1 c_28, wrL]⟩))
  ·
    have hz_c_2 := nz_1 c_2
    refine S_aload_n X dX7_push_19 rfl rfl ?_
    refine S_get (v := iv n) X fgX7_13_6 0 rfl rfl dX7_push_20 ?_
    refine S_sipush X dX7_push_23 rfl ?_
    refine S_icmp_ge (tgt := 49) X dX7_push_26 (by decide) (by omega) (by decide) (fun c_32 => by exfalso; omega) (fun c_32 => ?_)
    refine S_aload_n X dX7_push_29 rfl rfl ?_
    refine S_get X fgX7_9_6 0 rfl hf0 dX7_push_30 ?_
    refine S_aload_n X dX7_push_33 rfl rfl ?_
    refine S_get (v := iv n) X fgX7_13_6 0 rfl rfl dX7_push_34 ?_
    refine S_iload_n X dX7_push_37 rfl rfl ?_
    refine S_iast X 1 rfl (by omega) (by omega) (nle rfl) dX7_push_38 ?_
    refine S_w (ws' := [(h0, ob 6 (uF f 1 (iv n))), (hb, ar 160 (uZ T n (zAnd (zUshr x 24) 255)))]) rfl ?_
    refine S_aload_n X dX7_push_39 rfl rfl ?_
    refine S_dup X dX7_push_40 ?_
    refine S_get (v := iv n) X fgX7_13_6 0 rfl rfl dX7_push_41 ?_
    refine S_iconst X dX7_push_44 ?_
    refine S_iadd X dX7_push_45 ?_
    refine S_put X fpX7_13_6 0 rfl FT_i dX7_push_46 ?_
    refine S_w (ws' := [(h0, ob 6 (uF f 1 (iv (n + 1)))), (hb, ar 160 (uZ T n (zAnd (zUshr x 24) 255)))]) (by simp only [List.set]; rw [uF_same (k := 1)]) ?_
    refine S_iincK (w := 16) X dX7_push_49 (nle rfl) rfl (by decide) ?_
    refine S_goto (tgt := 3) X dX7_push_52 (by decide) ?_
    refine S_iload_n X dX7_push_3 rfl rfl ?_
    refine S_if_lt (tgt := 55) X dX7_push_4 (by decide) (by decide) (fun h9 => absurd h9 (by decide)) (fun _ => ?_)
    refine S_iload_n X dX7_push_7 rfl rfl ?_
    refine S_iload_n X dX7_push_8 rfl rfl ?_
    refine S_iushr X dX7_push_9 ?_
    refine S_sipush X dX7_push_10 rfl ?_
    refine S_iand X dX7_push_13 ?_
    refine S_istore_n X dX7_push_14 rfl (nle rfl) ?_
    refine S_iload_n X dX7_push_15 rfl rfl ?_
    have hr_33 := zAnd_r (zUshr x 16) 255
    refine S_if_eq (tgt := 49) X dX7_push_16 (by decide) (by omega) (fun c_34 => ?_) (fun c_34 => ?_)
    ·
      have hz_c_34 := nz_0 c_34
      refine S_iincK (w := 8) X dX7_push_49 (nle rfl) rfl (by decide) ?_
      refine S_goto (tgt := 3) X dX7_push_52 (by decide) ?_
      refine S_iload_n X dX7_push_3 rfl rfl ?_
      refine S_if_lt (tgt := 55) X dX7_push_4 (by decide) (by decide) (fun h9 => absurd h9 (by decide)) (fun _ => ?_)
      refine S_iload_n X dX7_push_7 rfl rfl ?_
      refine S_iload_n X dX7_push_8 rfl rfl ?_
      refine S_iushr X dX7_push_9 ?_
      refine S_sipush X dX7_push_10 rfl ?_
      refine S_iand X dX7_push_13 ?_
      refine S_istore_n X dX7_push_14 rfl (nle rfl) ?_
      refine S_iload_n X dX7_push_15 rfl rfl ?_
      have hr_35 := zAnd_r (zUshr x 8) 255
      refine S_if_eq (tgt := 49) X dX7_push_16 (by decide) (by omega) (fun c_36 => ?_) (fun c_36 => ?_)
      ·
        have hz_c_36 := nz_0 c_36
        refine S_iincK (w := 0) X dX7_push_49 (nle rfl) rfl (by decide) ?_
        refine S_goto (tgt := 3) X dX7_push_52 (by decide) ?_
        refine S_iload_n X dX7_push_3 rfl rfl ?_
        refine S_if_lt (tgt := 55) X dX7_push_4 (by decide) (by decide) (fun h9 => absurd h9 (by decide)) (fun _ => ?_)
        refine S_iload_n X dX7_push_7 rfl rfl ?_
        refine S_iload_n X dX7_push_8 rfl rfl ?_
        refine S_iushr X dX7_push_9 ?_
        refine S_sipush X dX7_push_10 rfl ?_
        refine S_iand X dX7_push_13 ?_
        refine S_istore_n X dX7_push_14 rfl (nle rfl) ?_
        refine S_iload_n X dX7_push_15 rfl rfl ?_
        have hr_37 := zAnd_r (zUshr x 0) 255
        refine S_if_eq (tgt := 49) X dX7_push_16 (by decide) (by omega) (fun c_38 => ?_) (fun c_38 => ?_)
        ·
          have hz_c_38 := nz_0 c_38
          refine S_iincK (w := -8) X dX7_push_49 (nle rfl) rfl (by decide) ?_
          refine S_goto (tgt := 3) X dX7_push_52 (by decide) ?_
          refine S_iload_n X dX7_push_3 rfl rfl ?_
          refine S_if_lt (tgt := 55) X dX7_push_4 (by decide) (by decide) (fun _ => ?_) (fun h9 => absurd h9 (by decide))
          exact S_vret X (nle rfl) (nle rfl) dX7_push_55 (hPo _ (⟨_, _, rfl, by unfold byn; omega, by simp only [bys, cNZ_1 c_2, cNZ_0 c_34, cNZ_0 c_36, cNZ_0 c_38, wrL]⟩))
        ·
          have hz_c_38 := nz_1 c_38
          refine S_aload_n X dX7_push_19 rfl rfl ?_
          refine S_get (v := iv (n + 1)) X fgX7_13_6 0 rfl rfl dX7_push_20 ?_
          refine S_sipush X dX7_push_23 rfl ?_
          refine S_icmp_ge (tgt := 49) X dX7_push_26 (by decide) (by omega) (by decide) (fun c_40 => by exfalso; omega) (fun c_40 => ?_)
          refine S_aload_n X dX7_push_29 rfl rfl ?_
          refine S_get X fgX7_9_6 0 rfl hf0 dX7_push_30 ?_
          refine S_aload_n X dX7_push_33 rfl rfl ?_
          refine S_get (v := iv (n + 1)) X fgX7_13_6 0 rfl rfl dX7_push_34 ?_
          refine S_iload_n X dX7_push_37 rfl rfl ?_
          refine S_iast X 1 rfl (by omega) (by omega) (nle rfl) dX7_push_38 ?_
          refine S_w (ws' := [(h0, ob 6 (uF f 1 (iv (n + 1)))), (hb, ar 160 (uZ (uZ T n (zAnd (zUshr x 24) 255)) (n + 1) (zAnd (zUshr x 0) 255)))]) rfl ?_
          refine S_aload_n X dX7_push_39 rfl rfl ?_
          refine S_dup X dX7_push_40 ?_
          refine S_get (v := iv (n + 1)) X fgX7_13_6 0 rfl rfl dX7_push_41 ?_
          refine S_iconst X dX7_push_44 ?_
          refine S_iadd X dX7_push_45 ?_
          refine S_put X fpX7_13_6 0 rfl FT_i dX7_push_46 ?_
          refine S_w (ws' := [(h0, ob 6 (uF f 1 (iv ((n + 1) + 1)))), (hb, ar 160 (uZ (uZ T n (zAnd (zUshr x 24) 255)) (n + 1) (zAnd (zUshr x 0) 255)))]) (by simp only [List.set]; rw [uF_same (k := 1)]) ?_
          refine S_iincK (w := -8) X dX7_push_49 (nle rfl) rfl (by decide) ?_
          refine S_goto (tgt := 3) X dX7_push_52 (by decide) ?_
          refine S_iload_n X dX7_push_3 rfl rfl ?_
          refine S_if_lt (tgt := 55) X dX7_push_4 (by decide) (by decide) (fun _ => ?_) (fun h9 => absurd h9 (by decide))
          exact S_vret X (nle rfl) (nle rfl) dX7_push_55 (hPo _ (⟨_, _, rfl, by unfold byn; omega, by simp only [bys, cNZ_1 c_2, cNZ_0 c_34, cNZ_0 c_36, cNZ_1 c_38, wrL]⟩))
      ·
        have hz_c_36 := nz_1 c_36
        refine S_aload_n X dX7_push_19 rfl rfl ?_
        refine S_get (v := iv (n + 1)) X fgX7_13_6 0 rfl rfl dX7_push_20 ?_
        refine S_sipush X dX7_push_23 rfl ?_
        refine S_icmp_ge (tgt := 49) X dX7_push_26 (by decide) (by omega) (by decide) (fun c_42 => by exfalso; omega) (fun c_42 => ?_)
        refine S_aload_n X dX7_push_29 rfl rfl ?_
        refine S_get X fgX7_9_6 0 rfl hf0 dX7_push_30 ?_
        refine S_aload_n X dX7_push_33 rfl rfl ?_
        refine S_get (v := iv (n + 1)) X fgX7_13_6 0 rfl rfl dX7_push_34 ?_
        refine S_iload_n X dX7_push_37 rfl rfl ?_
        refine S_iast X 1 rfl (by omega) (by omega) (nle rfl) dX7_push_38 ?_
        refine S_w (ws' := [(h0, ob 6 (uF f 1 (iv (n + 1)))), (hb, ar 160 (uZ (uZ T n (zAnd (zUshr x 24) 255)) (n + 1) (zAnd (zUshr x 8) 255)))]) rfl ?_
        refine S_aload_n X dX7_push_39 rfl rfl ?_
        refine S_dup X dX7_push_40 ?_
        refine S_get (v := iv (n + 1)) X fgX7_13_6 0 rfl rfl dX7_push_41 ?_
        refine S_iconst X dX7_push_44 ?_
        refine S_iadd X dX7_push_45 ?_
        refine S_put X fpX7_13_6 0 rfl FT_i dX7_push_46 ?_
        refine S_w (ws' := [(h0, ob 6 (uF f 1 (iv ((n + 1) + 1)))), (hb, ar 160 (uZ (uZ T n (zAnd (zUshr x 24) 255)) (n + 1) (zAnd (zUshr x 8) 255)))]) (by simp only [List.set]; rw [uF_same (k := 1)]) ?_
        refine S_iincK (w := 0) X dX7_push_49 (nle rfl) rfl (by decide) ?_
        refine S_goto (tgt := 3) X dX7_push_52 (by decide) ?_
        refine S_iload_n X dX7_push_3 rfl rfl ?_
        refine S_if_lt (tgt := 55) X dX7_push_4 (by decide) (by decide) (fun h9 => absurd h9 (by decide)) (fun _ => ?_)
        refine S_iload_n X dX7_push_7 rfl rfl ?_
        refine S_iload_n X dX7_push_8 rfl rfl ?_
        refine S_iushr X dX7_push_9 ?_
        refine S_sipush X dX7_push_10 rfl ?_
        refine S_iand X dX7_push_13 ?_
        refine S_istore_n X dX7_push_14 rfl (nle rfl) ?_
        refine S_iload_n X dX7_push_15 rfl rfl ?_
        have hr_43 := zAnd_r (zUshr x 0) 255
        refine S_if_eq (tgt := 49) X dX7_push_16 (by decide) (by omega) (fun c_44 => ?_) (fun c_44 => ?_)
        ·
          have hz_c_44 := nz_0 c_44
          refine S_iincK (w := -8) X dX7_push_49 (nle rfl) rfl (by decide) ?_
          refine S_goto (tgt := 3) X dX7_push_52 (by decide) ?_
          refine S_iload_n X dX7_push_3 rfl rfl ?_
          refine S_if_lt (tgt := 55) X dX7_push_4 (by decide) (by decide) (fun _ => ?_) (fun h9 => absurd h9 (by decide))
          exact S_vret X (nle rfl) (nle rfl) dX7_push_55 (hPo _ (⟨_, _, rfl, by unfold byn; omega, by simp only [bys, cNZ_1 c_2, cNZ_0 c_34, cNZ_1 c_36, cNZ_0 c_44, wrL]⟩))
        ·
          have hz_c_44 := nz_1 c_44
          refine S_aload_n X dX7_push_19 rfl rfl ?_
          refine S_get (v := iv ((n + 1) + 1)) X fgX7_13_6 0 rfl rfl dX7_push_20 ?_
          refine S_sipush X dX7_push_23 rfl ?_
          refine S_icmp_ge (tgt := 49) X dX7_push_26 (by decide) (by omega) (by decide) (fun c_46 => by exfalso; omega) (fun c_46 => ?_)
          refine S_aload_n X dX7_push_29 rfl rfl ?_
          refine S_get X fgX7_9_6 0 rfl hf0 dX7_push_30 ?_
          refine S_aload_n X dX7_push_33 rfl rfl ?_
          refine S_get (v := iv ((n + 1) + 1)) X fgX7_13_6 0 rfl rfl dX7_push_34 ?_
          refine S_iload_n X dX7_push_37 rfl rfl ?_
          refine S_iast X 1 rfl (by omega) (by omega) (nle rfl) dX7_push_38 ?_
          refine S_w (ws' := [(h0, ob 6 (uF f 1 (iv ((n + 1) + 1)))), (hb, ar 160 (uZ (uZ (uZ T n (zAnd (zUshr x 24) 255)) (n + 1) (zAnd (zUshr x 8) 255)) ((n + 1) + 1) (zAnd (zUshr x 0) 255)))]) rfl ?_
          refine S_aload_n X dX7_push_39 rfl rfl ?_
          refine S_dup X dX7_push_40 ?_
          refine S_get (v := iv ((n + 1) + 1)) X fgX7_13_6 0 rfl rfl dX7_push_41 ?_
          refine S_iconst X dX7_push_44 ?_
          refine S_iadd X dX7_push_45 ?_
          refine S_put X fpX7_13_6 0 rfl FT_i dX7_push_46 ?_
          refine S_w (ws' := [(h0, ob 6 (uF f 1 (iv (((n + 1) + 1) + 1)))), (hb, ar 160 (uZ (uZ (uZ T n (zAnd (zUshr x 24) 255)) (n + 1) (zAnd (zUshr x 8) 255)) ((n + 1) + 1) (zAnd (zUshr x 0) 255)))]) (by simp only [List.set]; rw [uF_same (k := 1)]) ?_
          refine S_iincK (w := -8) X dX7_push_49 (nle rfl) rfl (by decide) ?_
          refine S_goto (tgt := 3) X dX7_push_52 (by decide) ?_
          refine S_iload_n X dX7_push_3 rfl rfl ?_
          refine S_if_lt (tgt := 55) X dX7_push_4 (by decide) (by decide) (fun _ => ?_) (fun h9 => absurd h9 (by decide))
          exact S_vret X (nle rfl) (nle rfl) dX7_push_55 (hPo _ (⟨_, _, rfl, by unfold byn; omega, by simp only [bys, cNZ_1 c_2, cNZ_0 c_34, cNZ_1 c_36, cNZ_1 c_44, wrL]⟩))
    ·
      have hz_c_34 := nz_1 c_34
      refine S_aload_n X dX7_push_19 rfl rfl ?_
      refine S_get (v := iv (n + 1)) X fgX7_13_6 0 rfl rfl dX7_push_20 ?_
      refine S_sipush X dX7_push_23 rfl ?_
      refine S_icmp_ge (tgt := 49) X dX7_push_26 (by decide) (by omega) (by decide) (fun c_48 => by exfalso; omega) (fun c_48 => ?_)
      refine S_aload_n X dX7_push_29 rfl rfl ?_
      refine S_get X fgX7_9_6 0 rfl hf0 dX7_push_30 ?_
      refine S_aload_n X dX7_push_33 rfl rfl ?_
      refine S_get (v := iv (n + 1)) X fgX7_13_6 0 rfl rfl dX7_push_34 ?_
      refine S_iload_n X dX7_push_37 rfl rfl ?_
      refine S_iast X 1 rfl (by omega) (by omega) (nle rfl) dX7_push_38 ?_
      refine S_w (ws' := [(h0, ob 6 (uF f 1 (iv (n + 1)))), (hb, ar 160 (uZ (uZ T n (zAnd (zUshr x 24) 255)) (n + 1) (zAnd (zUshr x 16) 255)))]) rfl ?_
      refine S_aload_n X dX7_push_39 rfl rfl ?_
      refine S_dup X dX7_push_40 ?_
      refine S_get (v := iv (n + 1)) X fgX7_13_6 0 rfl rfl dX7_push_41 ?_
      refine S_iconst X dX7_push_44 ?_
      refine S_iadd X dX7_push_45 ?_
      refine S_put X fpX7_13_6 0 rfl FT_i dX7_push_46 ?_
      refine S_w (ws' := [(h0, ob 6 (uF f 1 (iv ((n + 1) + 1)))), (hb, ar 160 (uZ (uZ T n (zAnd (zUshr x 24) 255)) (n + 1) (zAnd (zUshr x 16) 255)))]) (by simp only [List.set]; rw [uF_same (k := 1)]) ?_
      refine S_iincK (w := 8) X dX7_push_49 (nle rfl) rfl (by decide) ?_
      refine S_goto (tgt := 3) X dX7_push_52 (by decide) ?_
      refine S_iload_n X dX7_push_3 rfl rfl ?_
      refine S_if_lt (tgt := 55) X dX7_push_4 (by decide) (by decide) (fun h9 => absurd h9 (by decide)) (fun _ => ?_)
      refine S_iload_n X dX7_push_7 rfl rfl ?_
      refine S_iload_n X dX7_push_8 rfl rfl ?_
      refine S_iushr X dX7_push_9 ?_
      refine S_sipush X dX7_push_10 rfl ?_
      refine S_iand X dX7_push_13 ?_
      refine S_istore_n X dX7_push_14 rfl (nle rfl) ?_
      refine S_iload_n X dX7_push_15 rfl rfl ?_
      have hr_49 := zAnd_r (zUshr x 8) 255
      refine S_if_eq (tgt := 49) X dX7_push_16 (by decide) (by omega) (fun c_50 => ?_) (fun c_50 => ?_)
      ·
        have hz_c_50 := nz_0 c_50
        refine S_iincK (w := 0) X dX7_push_49 (nle rfl) rfl (by decide) ?_
        refine S_goto (tgt := 3) X dX7_push_52 (by decide) ?_
        refine S_iload_n X dX7_push_3 rfl rfl ?_
        refine S_if_lt (tgt := 55) X dX7_push_4 (by decide) (by decide) (fun h9 => absurd h9 (by decide)) (fun _ => ?_)
        refine S_iload_n X dX7_push_7 rfl rfl ?_
        refine S_iload_n X dX7_push_8 rfl rfl ?_
        refine S_iushr X dX7_push_9 ?_
        refine S_sipush X dX7_push_10 rfl ?_
        refine S_iand X dX7_push_13 ?_
        refine S_istore_n X dX7_push_14 rfl (nle rfl) ?_
        refine S_iload_n X dX7_push_15 rfl rfl ?_
        have hr_51 := zAnd_r (zUshr x 0) 255
        refine S_if_eq (tgt := 49) X dX7_push_16 (by decide) (by omega) (fun c_52 => ?_) (fun c_52 => ?_)
        ·
          have hz_c_52 := nz_0 c_52
          refine S_iincK (w := -8) X dX7_push_49 (nle rfl) rfl (by decide) ?_
          refine S_goto (tgt := 3) X dX7_push_52 (by decide) ?_
          refine S_iload_n X dX7_push_3 rfl rfl ?_
          refine S_if_lt (tgt := 55) X dX7_push_4 (by decide) (by decide) (fun _ => ?_) (fun h9 => absurd h9 (by decide))
          exact S_vret X (nle rfl) (nle rfl) dX7_push_55 (hPo _ (⟨_, _, rfl, by unfold byn; omega, by simp only [bys, cNZ_1 c_2, cNZ_1 c_34, cNZ_0 c_50, cNZ_0 c_52, wrL]⟩))
        ·
          have hz_c_52 := nz_1 c_52
          refine S_aload_n X dX7_push_19 rfl rfl ?_
          refine S_get (v := iv ((n + 1) + 1)) X fgX7_13_6 0 rfl rfl dX7_push_20 ?_
          refine S_sipush X dX7_push_23 rfl ?_
          refine S_icmp_ge (tgt := 49) X dX7_push_26 (by decide) (by omega) (by decide) (fun c_54 => by exfalso; omega) (fun c_54 => ?_)
          refine S_aload_n X dX7_push_29 rfl rfl ?_
          refine S_get X fgX7_9_6 0 rfl hf0 dX7_push_30 ?_
          refine S_aload_n X dX7_push_33 rfl rfl ?_
          refine S_get (v := iv ((n + 1) + 1)) X fgX7_13_6 0 rfl rfl dX7_push_34 ?_
          refine S_iload_n X dX7_push_37 rfl rfl ?_
          refine S_iast X 1 rfl (by omega) (by omega) (nle rfl) dX7_push_38 ?_
          refine S_w (ws' := [(h0, ob 6 (uF f 1 (iv ((n + 1) + 1)))), (hb, ar 160 (uZ (uZ (uZ T n (zAnd (zUshr x 24) 255)) (n + 1) (zAnd (zUshr x 16) 255)) ((n + 1) + 1) (zAnd (zUshr x 0) 255)))]) rfl ?_
          refine S_aload_n X dX7_push_39 rfl rfl ?_
          refine S_dup X dX7_push_40 ?_
          refine S_get (v := iv ((n + 1) + 1)) X fgX7_13_6 0 rfl rfl dX7_push_41 ?_
          refine S_iconst X dX7_push_44 ?_
          refine S_iadd X dX7_push_45 ?_
          refine S_put X fpX7_13_6 0 rfl FT_i dX7_push_46 ?_
          refine S_w (ws' := [(h0, ob 6 (uF f 1 (iv (((n + 1) + 1) + 1)))), (hb, ar 160 (uZ (uZ (uZ T n (zAnd (zUshr x 24) 255)) (n + 1) (zAnd (zUshr x 16) 255)) ((n + 1) + 1) (zAnd (zUshr x 0) 255)))]) (by simp only [List.set]; rw [uF_same (k := 1)]) ?_
          refine S_iincK (w := -8) X dX7_push_49 (nle rfl) rfl (by decide) ?_
          refine S_goto (tgt := 3) X dX7_push_52 (by decide) ?_
          refine S_iload_n X dX7_push_3 rfl rfl ?_
          refine S_if_lt (tgt := 55) X dX7_push_4 (by decide) (by decide) (fun _ => ?_) (fun h9 => absurd h9 (by decide))
          exact S_vret X (nle rfl) (nle rfl) dX7_push_55 (hPo _ (⟨_, _, rfl, by unfold byn; omega, by simp only [bys, cNZ_1 c_2, cNZ_1 c_34, cNZ_0 c_50, cNZ_1 c_52, wrL]⟩))
      ·
        have hz_c_50 := nz_1 c_50
        refine S_aload_n X dX7_push_19 rfl rfl ?_
        refine S_get (v := iv ((n + 1) + 1)) X fgX7_13_6 0 rfl rfl dX7_push_20 ?_
        refine S_sipush X dX7_push_23 rfl ?_
        refine S_icmp_ge (tgt := 49) X dX7_push_26 (by decide) (by omega) (by decide) (fun c_56 => by exfalso; omega) (fun c_56 => ?_)
        refine S_aload_n X dX7_push_29 rfl rfl ?_
        refine S_get X fgX7_9_6 0 rfl hf0 dX7_push_30 ?_
        refine S_aload_n X dX7_push_33 rfl rfl ?_
        refine S_get (v := iv ((n + 1) + 1)) X fgX7_13_6 0 rfl rfl dX7_push_34 ?_
        refine S_iload_n X dX7_push_37 rfl rfl ?_
        refine S_iast X 1 rfl (by omega) (by omega) (nle rfl) dX7_push_38 ?_
        refine S_w (ws' := [(h0, ob 6 (uF f 1 (iv ((n + 1) + 1)))), (hb, ar 160 (uZ (uZ (uZ T n (zAnd (zUshr x 24) 255)) (n + 1) (zAnd (zUshr x 16) 255)) ((n + 1) + 1) (zAnd (zUshr x 8) 255)))]) rfl ?_
        refine S_aload_n X dX7_push_39 rfl rfl ?_
        refine S_dup X dX7_push_40 ?_
        refine S_get (v := iv ((n + 1) + 1)) X fgX7_13_6 0 rfl rfl dX7_push_41 ?_
        refine S_iconst X dX7_push_44 ?_
        refine S_iadd X dX7_push_45 ?_
        refine S_put X fpX7_13_6 0 rfl FT_i dX7_push_46 ?_
        refine S_w (ws' := [(h0, ob 6 (uF f 1 (iv (((n + 1) + 1) + 1)))), (hb, ar 160 (uZ (uZ (uZ T n (zAnd (zUshr x 24) 255)) (n + 1) (zAnd (zUshr x 16) 255)) ((n + 1) + 1) (zAnd (zUshr x 8) 255)))]) (by simp only [List.set]; rw [uF_same (k := 1)]) ?_
        refine S_iincK (w := 0) X dX7_push_49 (nle rfl) rfl (by decide) ?_
        refine S_goto (tgt := 3) X dX7_push_52 (by decide) ?_
        refine S_iload_n X dX7_push_3 rfl rfl ?_
        refine S_if_lt (tgt := 55) X dX7_push_4 (by decide) (by decide) (fun h9 => absurd h9 (by decide)) (fun _ => ?_)
        refine S_iload_n X dX7_push_7 rfl rfl ?_
        refine S_iload_n X dX7_push_8 rfl rfl ?_
        refine S_iushr X dX7_push_9 ?_
        refine S_sipush X dX7_push_10 rfl ?_
        refine S_iand X dX7_push_13 ?_
        refine S_istore_n X dX7_push_14 rfl (nle rfl) ?_
        refine S_iload_n X dX7_push_15 rfl rfl ?_
        have hr_57 := zAnd_r (zUshr x 0) 255
        refine S_if_eq (tgt := 49) X dX7_push_16 (by decide) (by omega) (fun c_58 => ?_) (fun c_58 => ?_)
        ·
          have hz_c_58 := nz_0 c_58
          refine S_iincK (w := -8) X dX7_push_49 (nle rfl) rfl (by decide) ?_
          refine S_goto (tgt := 3) X dX7_push_52 (by decide) ?_
          refine S_iload_n X dX7_push_3 rfl rfl ?_
          refine S_if_lt (tgt := 55) X dX7_push_4 (by decide) (by decide) (fun _ => ?_) (fun h9 => absurd h9 (by decide))
          exact S_vret X (nle rfl) (nle rfl) dX7_push_55 (hPo _ (⟨_, _, rfl, by unfold byn; omega, by simp only [bys, cNZ_1 c_2, cNZ_1 c_34, cNZ_1 c_50, cNZ_0 c_58, wrL]⟩))
        ·
          have hz_c_58 := nz_1 c_58
          refine S_aload_n X dX7_push_19 rfl rfl ?_
          refine S_get (v := iv (((n + 1) + 1) + 1)) X fgX7_13_6 0 rfl rfl dX7_push_20 ?_
          refine S_sipush X dX7_push_23 rfl ?_
          refine S_icmp_ge (tgt := 49) X dX7_push_26 (by decide) (by omega) (by decide) (fun c_60 => by exfalso; omega) (fun c_60 => ?_)
          refine S_aload_n X dX7_push_29 rfl rfl ?_
          refine S_get X fgX7_9_6 0 rfl hf0 dX7_push_30 ?_
          refine S_aload_n X dX7_push_33 rfl rfl ?_
          refine S_get (v := iv (((n + 1) + 1) + 1)) X fgX7_13_6 0 rfl rfl dX7_push_34 ?_
          refine S_iload_n X dX7_push_37 rfl rfl ?_
          refine S_iast X 1 rfl (by omega) (by omega) (nle rfl) dX7_push_38 ?_
          refine S_w (ws' := [(h0, ob 6 (uF f 1 (iv (((n + 1) + 1) + 1)))), (hb, ar 160 (uZ (uZ (uZ (uZ T n (zAnd (zUshr x 24) 255)) (n + 1) (zAnd (zUshr x 16) 255)) ((n + 1) + 1) (zAnd (zUshr x 8) 255)) (((n + 1) + 1) + 1) (zAnd (zUshr x 0) 255)))]) rfl ?_
          refine S_aload_n X dX7_push_39 rfl rfl ?_
          refine S_dup X dX7_push_40 ?_
          refine S_get (v := iv (((n + 1) + 1) + 1)) X fgX7_13_6 0 rfl rfl dX7_push_41 ?_
          refine S_iconst X dX7_push_44 ?_
          refine S_iadd X dX7_push_45 ?_
          refine S_put X fpX7_13_6 0 rfl FT_i dX7_push_46 ?_
          refine S_w (ws' := [(h0, ob 6 (uF f 1 (iv ((((n + 1) + 1) + 1) + 1)))), (hb, ar 160 (uZ (uZ (uZ (uZ T n (zAnd (zUshr x 24) 255)) (n + 1) (zAnd (zUshr x 16) 255)) ((n + 1) + 1) (zAnd (zUshr x 8) 255)) (((n + 1) + 1) + 1) (zAnd (zUshr x 0) 255)))]) (by simp only [List.set]; rw [uF_same (k := 1)]) ?_
          refine S_iincK (w := -8) X dX7_push_49 (nle rfl) rfl (by decide) ?_
          refine S_goto (tgt := 3) X dX7_push_52 (by decide) ?_
          refine S_iload_n X dX7_push_3 rfl rfl ?_
          refine S_if_lt (tgt := 55) X dX7_push_4 (by decide) (by decide) (fun _ => ?_) (fun h9 => absurd h9 (by decide))
          exact S_vret X (nle rfl) (nle rfl) dX7_push_55 (hPo _ (⟨_, _, rfl, by unfold byn; omega, by simp only [bys, cNZ_1 c_2, cNZ_1 c_34, cNZ_1 c_50, cNZ_1 c_58, wrL]⟩))
set_option maxHeartbeats 4000000 in
set_option maxRecDepth 100000 in
theorem kX11_feed (l : Launch) (h0 : Nat) (ht : Nat) (hb : Nat) (f : Nat → AV) (ft : Nat → AV) (T : Int → Int) (n : Int) (x1 : Int) (x2 : Int) (x3 : Int) (x4 : Int) (x5 : Int) (hf0 : f 0 = rv ht) (hf1 : ft 0 = rv hb) (hn : 0 ≤ n ∧ n ≤ 160) : AMi l yX11_feed cX11_feed 7 .int 1 0 0 [rv h0, iv x1, iv x2, iv x3, iv x4, iv x5] [(h0, ob 10 f), (ht, ob 6 (uF ft 1 (iv n))), (hb, ar 160 T)] (fun z u => (z = -1 ∧ u = [(h0, ob 10 f), (ht, ob 6 (uF ft 1 (iv n))), (hb, ar 160 T)] ∧ 160 < n + fbn x1 x2 x3 x4 x5) ∨ (∃ n2 : Int, ∃ T2 : Int → Int, z = n2 ∧ u = [(h0, ob 10 f), (ht, ob 6 (uF ft 1 (iv n2))), (hb, ar 160 T2)] ∧ n + fbn x1 x2 x3 x4 x5 ≤ 160 ∧ n2 = n + fbn x1 x2 x3 x4 x5 ∧ T2 = wrL T n (fbs x1 x2 x3 x4 x5))) := by
  refine AMi.of2 rfl (nle rfl) ?_
  intro D G A p e s m args below meth c Po hPo X
  have hb1 := byn_in x1
  have hb2 := byn_in x2
  have hb3 := byn_in x3
  have hb4 := byn_in x4
  have hb5 := byn_in x5
  refine S_iload_n X dX11_feed_0 rfl rfl ?_
  refine S_calli X (kX7_bytesIn l x1 ) (is := []) rfl (run_S X lkX11_96 (is := []) (avs := [iv x1]) (rest := []) rfl rfl (nle rfl) ⟨nle rfl, nle rfl⟩ ⟨nle rfl, nle rfl⟩ dX11_feed_1 (by decide) rfl) (fun z_3 u_1 hp_2 => ?_)
  obtain ⟨hz_4, hu_5⟩ := hp_2
  subst hz_4
  subst hu_5
  refine ⟨rfl, ?_⟩
  refine S_w (ws' := [(h0, ob 10 f), (ht, ob 6 (uF ft 1 (iv n))), (hb, ar 160 T)]) rfl ?_
  refine S_iload_n X dX11_feed_4 rfl rfl ?_
  refine S_calli X (kX7_bytesIn l x2 ) (is := []) rfl (run_S X lkX11_96 (is := []) (avs := [iv x2]) (rest := [iv (byn x1)]) rfl rfl (nle rfl) ⟨nle rfl, nle rfl⟩ ⟨nle rfl, nle rfl⟩ dX11_feed_5 (by decide) rfl) (fun z_8 u_6 hp_7 => ?_)
  obtain ⟨hz_9, hu_10⟩ := hp_7
  subst hz_9
  subst hu_10
  refine ⟨rfl, ?_⟩
  refine S_w (ws' := [(h0, ob 10 f), (ht, ob 6 (uF ft 1 (iv n))), (hb, ar 160 T)]) rfl ?_
  refine S_iadd X dX11_feed_8 ?_
  refine S_iload_n X dX11_feed_9 rfl rfl ?_
  refine S_calli X (kX7_bytesIn l x3 ) (is := []) rfl (run_S X lkX11_96 (is := []) (avs := [iv x3]) (rest := [iv ((byn x1) + (byn x2))]) rfl rfl (nle rfl) ⟨nle rfl, nle rfl⟩ ⟨nle rfl, nle rfl⟩ dX11_feed_10 (by decide) rfl) (fun z_13 u_11 hp_12 => ?_)
  obtain ⟨hz_14, hu_15⟩ := hp_12
  subst hz_14
  subst hu_15
  refine ⟨rfl, ?_⟩
  refine S_w (ws' := [(h0, ob 10 f), (ht, ob 6 (uF ft 1 (iv n))), (hb, ar 160 T)]) rfl ?_
  refine S_iadd X dX11_feed_13 ?_
  refine S_iload X dX11_feed_14 rfl ?_
  refine S_calli X (kX7_bytesIn l x4 ) (is := []) rfl (run_S X lkX11_96 (is := []) (avs := [iv x4]) (rest := [iv (((byn x1) + (byn x2)) + (byn x3))]) rfl rfl (nle rfl) ⟨nle rfl, nle rfl⟩ ⟨nle rfl, nle rfl⟩ dX11_feed_16 (by decide) rfl) (fun z_18 u_16 hp_17 => ?_)
  obtain ⟨hz_19, hu_20⟩ := hp_17
  subst hz_19
  subst hu_20
  refine ⟨rfl, ?_⟩
  refine S_w (ws' := [(h0, ob 10 f), (ht, ob 6 (uF ft 1 (iv n))), (hb, ar 160 T)]) rfl ?_
  refine S_iadd X dX11_feed_19 ?_
  refine S_iload X dX11_feed_20 rfl ?_
  refine S_calli X (kX7_bytesIn l x5 ) (is := []) rfl (run_S X lkX11_96 (is := []) (avs := [iv x5]) (rest := [iv ((((byn x1) + (byn x2)) + (byn x3)) + (byn x4))]) rfl rfl (nle rfl) ⟨nle rfl, nle rfl⟩ ⟨nle rfl, nle rfl⟩ dX11_feed_22 (by decide) rfl) (fun z_23 u_21 hp_22 => ?_)
  obtain ⟨hz_24, hu_25⟩ := hp_22
  subst hz_24
  subst hu_25
  refine ⟨rfl, ?_⟩
  refine S_w (ws' := [(h0, ob 10 f), (ht, ob 6 (uF ft 1 (iv n))), (hb, ar 160 T)]) rfl ?_
  refine S_iadd X dX11_feed_25 ?_
  refine S_istore X dX11_feed_26 (nle rfl) ?_
  refine S_aload_n X dX11_feed_28 rfl rfl ?_
  refine S_get X fgX11_10_10 0 rfl hf0 dX11_feed_29 ?_
  refine S_get (v := iv n) X fgX11_100_6 1 rfl rfl dX11_feed_32 ?_
  refine S_iload X dX11_feed_35 rfl ?_
  refine S_iadd X dX11_feed_37 ?_
  refine S_sipush X dX11_feed_38 rfl ?_
  refine S_icmp_le (tgt := 46) X dX11_feed_41 (by decide) (by omega) (by decide) (fun c_26 => ?_) (fun c_26 => ?_)
  ·
    refine S_aload_n X dX11_feed_46 rfl rfl ?_
    refine S_get X fgX11_10_10 0 rfl hf0 dX11_feed_47 ?_
    refine S_iload_n X dX11_feed_50 rfl rfl ?_
    refine S_callv X (kX7_push l ht hb ft T n x1 hf1 (by omega)) (is := [1, 2]) rfl (run_V X lkX11_103 1 rfl rfl (is := [1, 2]) (avs := [iv x1]) (rest := []) rfl rfl (nle rfl) ⟨nle rfl, nle rfl⟩ ⟨nle rfl, nle rfl⟩ dX11_feed_51 (by decide) rfl) (fun u_27 hp_28 => ?_)
    obtain ⟨n2_30, T2_31, hu_33, h2_34, h3_35⟩ := hp_28
    subst hu_33
    refine ⟨rfl, ?_⟩
    refine S_w (ws' := [(h0, ob 10 f), (ht, ob 6 (uF ft 1 (iv n2_30))), (hb, ar 160 T2_31)]) rfl ?_
    refine S_aload_n X dX11_feed_54 rfl rfl ?_
    refine S_get X fgX11_10_10 0 rfl hf0 dX11_feed_55 ?_
    refine S_iload_n X dX11_feed_58 rfl rfl ?_
    refine S_callv X (kX7_push l ht hb ft T2_31 n2_30 x2 hf1 (by omega)) (is := [1, 2]) rfl (run_V X lkX11_103 1 rfl rfl (is := [1, 2]) (avs := [iv x2]) (rest := []) rfl rfl (nle rfl) ⟨nle rfl, nle rfl⟩ ⟨nle rfl, nle rfl⟩ dX11_feed_59 (by decide) rfl) (fun u_36 hp_37 => ?_)
    obtain ⟨n2_39, T2_40, hu_42, h2_43, h3_44⟩ := hp_37
    subst hu_42
    refine ⟨rfl, ?_⟩
    refine S_w (ws' := [(h0, ob 10 f), (ht, ob 6 (uF ft 1 (iv n2_39))), (hb, ar 160 T2_40)]) rfl ?_
    refine S_aload_n X dX11_feed_62 rfl rfl ?_
    refine S_get X fgX11_10_10 0 rfl hf0 dX11_feed_63 ?_
    refine S_iload_n X dX11_feed_66 rfl rfl ?_
    refine S_callv X (kX7_push l ht hb ft T2_40 n2_39 x3 hf1 (by omega)) (is := [1, 2]) rfl (run_V X lkX11_103 1 rfl rfl (is := [1, 2]) (avs := [iv x3]) (rest := []) rfl rfl (nle rfl) ⟨nle rfl, nle rfl⟩ ⟨nle rfl, nle rfl⟩ dX11_feed_67 (by decide) rfl) (fun u_45 hp_46 => ?_)
    obtain ⟨n2_48, T2_49, hu_51, h2_52, h3_53⟩ := hp_46
    subst hu_51
    refine ⟨rfl, ?_⟩
    refine S_w (ws' := [(h0, ob 10 f), (ht, ob 6 (uF ft 1 (iv n2_48))), (hb, ar 160 T2_49)]) rfl ?_
    refine S_aload_n X dX11_feed_70 rfl rfl ?_
    refine S_get X fgX11_10_10 0 rfl hf0 dX11_feed_71 ?_
    refine S_iload X dX11_feed_74 rfl ?_
    refine S_callv X (kX7_push l ht hb ft T2_49 n2_48 x4 hf1 (by omega)) (is := [1, 2]) rfl (run_V X lkX11_103 1 rfl rfl (is := [1, 2]) (avs := [iv x4]) (rest := []) rfl rfl (nle rfl) ⟨nle rfl, nle rfl⟩ ⟨nle rfl, nle rfl⟩ dX11_feed_76 (by decide) rfl) (fun u_54 hp_55 => ?_)
    obtain ⟨n2_57, T2_58, hu_60, h2_61, h3_62⟩ := hp_55
    subst hu_60
    refine ⟨rfl, ?_⟩
    refine S_w (ws' := [(h0, ob 10 f), (ht, ob 6 (uF ft 1 (iv n2_57))), (hb, ar 160 T2_58)]) rfl ?_
    refine S_aload_n X dX11_feed_79 rfl rfl ?_
    refine S_get X fgX11_10_10 0 rfl hf0 dX11_feed_80 ?_
    refine S_iload X dX11_feed_83 rfl ?_
    refine S_callv X (kX7_push l ht hb ft T2_58 n2_57 x5 hf1 (by omega)) (is := [1, 2]) rfl (run_V X lkX11_103 1 rfl rfl (is := [1, 2]) (avs := [iv x5]) (rest := []) rfl rfl (nle rfl) ⟨nle rfl, nle rfl⟩ ⟨nle rfl, nle rfl⟩ dX11_feed_85 (by decide) rfl) (fun u_63 hp_64 => ?_)
    obtain ⟨n2_66, T2_67, hu_69, h2_70, h3_71⟩ := hp_64
    subst hu_69
    refine ⟨rfl, ?_⟩
    refine S_w (ws' := [(h0, ob 10 f), (ht, ob 6 (uF ft 1 (iv n2_66))), (hb, ar 160 T2_67)]) rfl ?_
    refine S_aload_n X dX11_feed_88 rfl rfl ?_
    refine S_get X fgX11_10_10 0 rfl hf0 dX11_feed_89 ?_
    refine S_get (v := iv n2_66) X fgX11_100_6 1 rfl rfl dX11_feed_92 ?_
    exact S_iret X (nle rfl) (nle rfl) dX11_feed_95 (hPo _ _ (Or.inr (⟨_, _, by first | rfl | omega, rfl, by unfold fbn; omega, by unfold fbn; omega, by rw [h3_71, h2_61, h3_62, h2_52, h3_53, h2_43, h3_44, h2_34, h3_35]; unfold fbs; simp only [wrL_app, bys_len, Int.add_assoc]⟩)))
  ·
    refine S_iconst X dX11_feed_44 ?_
    exact S_iret X (nle rfl) (nle rfl) dX11_feed_45 (hPo _ _ (Or.inl (⟨by first | rfl | omega, rfl, by unfold fbn; omega⟩)))
set_option maxHeartbeats 4000000 in
set_option maxRecDepth 100000 in
theorem kX11_end (l : Launch) (h0 : Nat) (ht : Nat) (f : Nat → AV) (ft : Nat → AV) (n : Int) (m0 : Int) (hf0 : f 0 = rv ht) (hn : 0 ≤ n ∧ n ≤ 160) (hm : inR m0) : AMi l yX11_end cX11_end 2 .boolean 0 0 0 [rv h0, iv m0] [(h0, ob 10 f), (ht, ob 6 (uF ft 1 (iv n)))] (fun z u => (z = 0 ∧ u = [(h0, ob 10 f), (ht, ob 6 (uF ft 1 (iv n)))] ∧ (¬ (0 ≤ m0 ∧ m0 ≤ n))) ∨ (z = 1 ∧ u = [(h0, ob 10 f), (ht, ob 6 (uF ft 1 (iv m0)))] ∧ (0 ≤ m0 ∧ m0 ≤ n))) := by
  refine AMi.of2 rfl (nle rfl) ?_
  intro D G A p e s m args below meth c Po hPo X
  refine S_iload_n X dX11_end_0 rfl rfl ?_
  refine S_if_lt (tgt := 15) X dX11_end_1 (by decide) (by omega) (fun c_1 => ?_) (fun c_1 => ?_)
  ·
    refine S_iconst X dX11_end_15 ?_
    exact S_zret X (Or.inl rfl) (nle rfl) (nle rfl) dX11_end_16 (hPo _ _ (Or.inl (⟨by first | rfl | omega, rfl, by first | rfl | assumption | omega⟩)))
  ·
    refine S_iload_n X dX11_end_4 rfl rfl ?_
    refine S_aload_n X dX11_end_5 rfl rfl ?_
    refine S_get X fgX11_10_10 0 rfl hf0 dX11_end_6 ?_
    refine S_get (v := iv n) X fgX11_100_6 1 rfl rfl dX11_end_9 ?_
    refine S_icmp_le (tgt := 17) X dX11_end_12 (by decide) (by omega) (by omega) (fun c_2 => ?_) (fun c_2 => ?_)
    ·
      refine S_aload_n X dX11_end_17 rfl rfl ?_
      refine S_get X fgX11_10_10 0 rfl hf0 dX11_end_18 ?_
      refine S_iload_n X dX11_end_21 rfl rfl ?_
      refine S_put X fpX11_100_6 1 rfl FT_i dX11_end_22 ?_
      refine S_w (ws' := [(h0, ob 10 f), (ht, ob 6 (uF ft 1 (iv m0)))]) (by simp only [List.set]; rw [uF_same (k := 1)]) ?_
      refine S_iconst X dX11_end_25 ?_
      exact S_zret X (Or.inr rfl) (nle rfl) (nle rfl) dX11_end_26 (hPo _ _ (Or.inr (⟨by first | rfl | omega, rfl, by first | rfl | assumption | omega⟩)))
    ·
      refine S_iconst X dX11_end_15 ?_
      exact S_zret X (Or.inl rfl) (nle rfl) (nle rfl) dX11_end_16 (hPo _ _ (Or.inl (⟨by first | rfl | omega, rfl, by first | rfl | assumption | omega⟩)))
end pt_10tape
/- 11.reader.lean.txt -/
section pt_11reader
theorem ch_in {T : Int → Int} {n a : Int} (hT : okT T n) (ha : 0 ≤ a) : 0 ≤ ch T n a ∧ ch T n a ≤ 255 := by
  unfold ch
  split
  · next h => have := hT.2.2 a ha h; omega
  · omega
theorem ch_0 {T : Int → Int} {n a : Int} (hT : okT T n) (ha : 0 ≤ a) (h : ch T n a = 0) : n ≤ a := by
  unfold ch at h
  split at h
  · next h2 => have := hT.2.2 a ha h2; omega
  · omega
theorem numF_dig {T : Int → Int} {n dg st a v : Int} {k : Nat} (h : a < n ∧ 48 ≤ T a ∧ T a ≤ 57) (h2 : ¬ dg ≤ a - st) : numF T n dg st (k + 1) a v = numF T n dg st k (a + 1) (v * 10 + T a - 48) := by
  rw [numF, if_pos h, if_neg h2]
theorem numF_big {T : Int → Int} {n dg st a v : Int} {k : Nat} (h : a < n ∧ 48 ≤ T a ∧ T a ≤ 57) (h2 : dg ≤ a - st) : numF T n dg st (k + 1) a v = .inl a := by
  rw [numF, if_pos h, if_pos h2]
theorem numF_end {T : Int → Int} {n dg st a v : Int} {k : Nat} (h : ¬ (a < n ∧ 48 ≤ T a ∧ T a ≤ 57)) : numF T n dg st (k + 1) a v = .inr (a, v) := by
  rw [numF, if_neg h]
theorem numE_o {lo hi a v : Int} (h : v < lo ∨ hi < v) : numE lo hi (.inr (a, v)) = .inl (a - 1) := if_pos h
theorem numE_i {lo hi a v : Int} (h : ¬ (v < lo ∨ hi < v)) : numE lo hi (.inr (a, v)) = .inr (a, v) := if_neg h
theorem fuel6 {k : Int} (h0 : 0 ≤ k) (h : k ≤ 5) : 6 - k.toNat = (5 - k.toNat) + 1 := by omega
def colR (R : Int → Int → Int) (k : Int) : Int → Int := fun j => R j k
theorem colR_put {R : Int → Int → Int} {p k : Int} {r : Int → Int} : colR (uZ R p r) k = uZ (colR R k) p (r k) := by
  funext j
  unfold colR uZ
  split <;> rfl
theorem uZ_self {α : Type} {f : Int → α} {k : Int} : uZ f k (f k) = f := by
  funext j
  unfold uZ
  split
  · next h => rw [h]
  · rfl
theorem uZ_same {α : Type} {f : Int → α} {k : Int} {a b : α} : uZ (uZ f k a) k b = uZ f k b := by
  funext j
  unfold uZ
  split <;> rfl
theorem gT_in {i : Int} (h : 0 ≤ i ∧ i ≤ 4) : 0 ≤ gTL i ∧ gTL i ≤ 1 ∧ 3 ≤ gTM i ∧ gTM i ≤ 99 := by
  rcases (by omega : i = 0 ∨ i = 1 ∨ i = 2 ∨ i = 3 ∨ i = 4) with rfl | rfl | rfl | rfl | rfl <;> decide
theorem pIt_s {T : Int → Int} {n : Int} {o : Bool} {k : Nat} {seen a : Int} {r : Int → Int} (h : itemOf (ch T n (sk T n a)) = -1) : pIt T n o (k + 1) seen a r = .inr (sk T n a, r) := by
  rw [pIt, if_pos h]
theorem pIt_f {T : Int → Int} {n : Int} {o : Bool} {k : Nat} {seen a : Int} {r : Int → Int} (h : itemOf (ch T n (sk T n a)) ≠ -1) (h2 : (o = false ∧ itemOf (ch T n (sk T n a)) ≠ 0) ∨ zAnd (zShr seen (itemOf (ch T n (sk T n a)))) 1 ≠ 0) : pIt T n o (k + 1) seen a r = .inl (sk T n a) := by
  rw [pIt, if_neg h, if_pos h2]
theorem pIt_n {T : Int → Int} {n : Int} {o : Bool} {k : Nat} {seen a f : Int} {r : Int → Int} (h : itemOf (ch T n (sk T n a)) ≠ -1) (h2 : ¬ ((o = false ∧ itemOf (ch T n (sk T n a)) ≠ 0) ∨ zAnd (zShr seen (itemOf (ch T n (sk T n a)))) 1 ≠ 0)) (h3 : pNum T n 2 (gTL (itemOf (ch T n (sk T n a)))) (gTM (itemOf (ch T n (sk T n a)))) (sk T n a + 1) = .inl f) : pIt T n o (k + 1) seen a r = .inl f := by
  rw [pIt, if_neg h, if_neg h2, h3]
theorem pIt_g {T : Int → Int} {n : Int} {o : Bool} {k : Nat} {seen a b v : Int} {r : Int → Int} (h : itemOf (ch T n (sk T n a)) ≠ -1) (h2 : ¬ ((o = false ∧ itemOf (ch T n (sk T n a)) ≠ 0) ∨ zAnd (zShr seen (itemOf (ch T n (sk T n a)))) 1 ≠ 0)) (h3 : pNum T n 2 (gTL (itemOf (ch T n (sk T n a)))) (gTM (itemOf (ch T n (sk T n a)))) (sk T n a + 1) = .inr (b, v)) : pIt T n o (k + 1) seen a r = pIt T n o k (zOr seen (zShl 1 (itemOf (ch T n (sk T n a))))) b (uZ r (itemOf (ch T n (sk T n a))) v) := by
  rw [pIt, if_neg h, if_neg h2, h3]
set_option maxHeartbeats 4000000 in
set_option maxRecDepth 100000 in
theorem kX5_isDigit (l : Launch) (x : Int) (hx : inR x) : AMi l yX5_isDigit cX5_isDigit 1 .boolean 0 0 0 [iv x] [] (fun z u => (z = 0 ∧ u = [] ∧ (¬ (48 ≤ x ∧ x ≤ 57))) ∨ (z = 1 ∧ u = [] ∧ (48 ≤ x ∧ x ≤ 57))) := by
  refine AMi.of2 rfl (nle rfl) ?_
  intro D G A p e s m args below meth c Po hPo X
  refine S_iload_n X dX5_isDigit_0 rfl rfl ?_
  refine S_bipush X dX5_isDigit_1 rfl ?_
  refine S_icmp_lt (tgt := 16) X dX5_isDigit_3 (by decide) (by omega) (by decide) (fun c_1 => ?_) (fun c_1 => ?_)
  ·
    refine S_iconst X dX5_isDigit_16 ?_
    exact S_zret X (Or.inl rfl) (nle rfl) (nle rfl) dX5_isDigit_17 (hPo _ _ (Or.inl (⟨by first | rfl | omega, rfl, by first | rfl | assumption | omega⟩)))
  ·
    refine S_iload_n X dX5_isDigit_6 rfl rfl ?_
    refine S_bipush X dX5_isDigit_7 rfl ?_
    refine S_icmp_gt (tgt := 16) X dX5_isDigit_9 (by decide) (by omega) (by decide) (fun c_2 => ?_) (fun c_2 => ?_)
    ·
      refine S_iconst X dX5_isDigit_16 ?_
      exact S_zret X (Or.inl rfl) (nle rfl) (nle rfl) dX5_isDigit_17 (hPo _ _ (Or.inl (⟨by first | rfl | omega, rfl, by first | rfl | assumption | omega⟩)))
    ·
      refine S_iconst X dX5_isDigit_12 ?_
      refine S_goto (tgt := 17) X dX5_isDigit_13 (by decide) ?_
      exact S_zret X (Or.inr rfl) (nle rfl) (nle rfl) dX5_isDigit_17 (hPo _ _ (Or.inr (⟨by first | rfl | omega, rfl, by first | rfl | assumption | omega⟩)))
set_option maxHeartbeats 4000000 in
set_option maxRecDepth 100000 in
theorem kX5_peek_8 (l : Launch) (h0 : Nat) (ht : Nat) (hb : Nat) (f : Nat → AV) (ft : Nat → AV) (T : Int → Int) (n : Int) (a : Int) (w : Int) (x : Int) (hf0 : f 0 = rv ht) (hf1 : ft 0 = rv hb) (hf2 : ft 1 = iv n) (hT : okT T n) (ha : 0 ≤ a ∧ a ≤ n) : AMi l yX5_peek cX5_peek 1 .int 0 0 0 [rv h0] [(h0, ob 8 (uF (uF (uF f 1 (iv a)) 2 (iv w)) 4 (iv x))), (ht, ob 6 ft), (hb, ar 160 T)] (fun z u => z = ch T n (sk T n a) ∧ u = [(h0, ob 8 (uF (uF (uF f 1 (iv (sk T n a))) 2 (iv w)) 4 (iv x))), (ht, ob 6 ft), (hb, ar 160 T)]) := by
  refine AMi.of2 rfl (nle rfl) ?_
  intro D G A p e s m args below meth c Po hPo X
  obtain ⟨hn0, hn1, hT2⟩ := id hT
  have lp0_0 : ∀ (N : Nat) (a1 : Int) (L : Nat → Option AV), a ≤ a1 ∧ a1 ≤ n → sk T n a1 = sk T n a → L 0 = some (rv h0) → 160 - a1 < (N : Int) → S_ p l e (rmD 0 0 0) s m args below meth c (MQ below (QcI D G A Po) args s 0 0 A) D G A 1 0 0 0 L [] [(h0, ob 8 (uF (uF (uF f 1 (iv a1)) 2 (iv w)) 4 (iv x))), (ht, ob 6 ft), (hb, ar 160 T)] := by
    intro N
    induction N with
    | zero =>
      intro a1 L0 hi hk hL0_0 hN0
      exfalso; omega
    | succ N ih0 =>
      intro a1 L0 hi hk hL0_0 hN0
      refine S_aload_n X dX5_peek_0 rfl hL0_0 ?_
      refine S_get (v := iv a1) X fgX5_15_8 0 rfl rfl dX5_peek_1 ?_
      refine S_aload_n X dX5_peek_4 rfl hL0_0 ?_
      refine S_get X fgX5_9_8 0 rfl hf0 dX5_peek_5 ?_
      refine S_get X fgX5_37_6 1 rfl hf2 dX5_peek_8 ?_
      refine S_icmp_ge (tgt := 54) X dX5_peek_11 (by decide) (by omega) (by omega) (fun c_1 => ?_) (fun c_1 => ?_)
      ·
        have hs : sk T n a = a1 := by rw [← hk]; exact sk_stop (by omega)
        refine S_aload_n X dX5_peek_54 rfl hL0_0 ?_
        refine S_get (v := iv a1) X fgX5_15_8 0 rfl rfl dX5_peek_55 ?_
        refine S_aload_n X dX5_peek_58 rfl hL0_0 ?_
        refine S_get X fgX5_9_8 0 rfl hf0 dX5_peek_59 ?_
        refine S_get X fgX5_37_6 1 rfl hf2 dX5_peek_62 ?_
        refine S_icmp_ge (tgt := 93) X dX5_peek_65 (by decide) (by omega) (by omega) (fun c_2 => ?_) (fun c_2 => ?_)
        ·
          refine S_iconst X dX5_peek_93 ?_
          exact S_iret X (nle rfl) (nle rfl) dX5_peek_94 (hPo _ _ (⟨by rw [hs]; unfold ch; rw [if_neg (by omega)], by rw [hs]⟩))
        ·
          refine S_aload_n X dX5_peek_68 rfl hL0_0 ?_
          refine S_get (v := iv a1) X fgX5_15_8 0 rfl rfl dX5_peek_69 ?_
          refine S_sipush X dX5_peek_72 rfl ?_
          refine S_icmp_ge (tgt := 93) X dX5_peek_75 (by decide) (by omega) (by decide) (fun c_3 => by exfalso; omega) (fun c_3 => ?_)
          refine S_aload_n X dX5_peek_78 rfl hL0_0 ?_
          refine S_get X fgX5_9_8 0 rfl hf0 dX5_peek_79 ?_
          refine S_get X fgX5_51_6 1 rfl hf1 dX5_peek_82 ?_
          refine S_aload_n X dX5_peek_85 rfl hL0_0 ?_
          refine S_get (v := iv a1) X fgX5_15_8 0 rfl rfl dX5_peek_86 ?_
          refine S_iald X 2 rfl (by omega) (by omega) (nle rfl) dX5_peek_89 ?_
          have hb_1 := hT2 a1 (by omega) (by omega)
          refine S_goto (tgt := 94) X dX5_peek_90 (by decide) ?_
          exact S_iret X (nle rfl) (nle rfl) dX5_peek_94 (hPo _ _ (⟨by rw [hs]; unfold ch; rw [if_pos (by omega)], by rw [hs]⟩))
      ·
        refine S_aload_n X dX5_peek_14 rfl hL0_0 ?_
        refine S_get (v := iv a1) X fgX5_15_8 0 rfl rfl dX5_peek_15 ?_
        refine S_sipush X dX5_peek_18 rfl ?_
        refine S_icmp_ge (tgt := 54) X dX5_peek_21 (by decide) (by omega) (by decide) (fun c_4 => by exfalso; omega) (fun c_4 => ?_)
        refine S_aload_n X dX5_peek_24 rfl hL0_0 ?_
        refine S_get X fgX5_9_8 0 rfl hf0 dX5_peek_25 ?_
        refine S_get X fgX5_51_6 1 rfl hf1 dX5_peek_28 ?_
        refine S_aload_n X dX5_peek_31 rfl hL0_0 ?_
        refine S_get (v := iv a1) X fgX5_15_8 0 rfl rfl dX5_peek_32 ?_
        refine S_iald X 2 rfl (by omega) (by omega) (nle rfl) dX5_peek_35 ?_
        have hb_2 := hT2 a1 (by omega) (by omega)
        refine S_bipush X dX5_peek_36 rfl ?_
        refine S_icmp_ne (tgt := 54) X dX5_peek_38 (by decide) (by omega) (by decide) (fun c_5 => ?_) (fun c_5 => ?_)
        ·
          have hs : sk T n a = a1 := by rw [← hk]; exact sk_stop (by omega)
          refine S_aload_n X dX5_peek_54 rfl hL0_0 ?_
          refine S_get (v := iv a1) X fgX5_15_8 0 rfl rfl dX5_peek_55 ?_
          refine S_aload_n X dX5_peek_58 rfl hL0_0 ?_
          refine S_get X fgX5_9_8 0 rfl hf0 dX5_peek_59 ?_
          refine S_get X fgX5_37_6 1 rfl hf2 dX5_peek_62 ?_
          refine S_icmp_ge (tgt := 93) X dX5_peek_65 (by decide) (by omega) (by omega) (fun c_6 => ?_) (fun c_6 => ?_)
          ·
            refine S_iconst X dX5_peek_93 ?_
            exact S_iret X (nle rfl) (nle rfl) dX5_peek_94 (hPo _ _ (⟨by rw [hs]; unfold ch; rw [if_neg (by omega)], by rw [hs]⟩))
          ·
            refine S_aload_n X dX5_peek_68 rfl hL0_0 ?_
            refine S_get (v := iv a1) X fgX5_15_8 0 rfl rfl dX5_peek_69 ?_
            refine S_sipush X dX5_peek_72 rfl ?_
            refine S_icmp_ge (tgt := 93) X dX5_peek_75 (by decide) (by omega) (by decide) (fun c_7 => by exfalso; omega) (fun c_7 => ?_)
            refine S_aload_n X dX5_peek_78 rfl hL0_0 ?_
            refine S_get X fgX5_9_8 0 rfl hf0 dX5_peek_79 ?_
            refine S_get X fgX5_51_6 1 rfl hf1 dX5_peek_82 ?_
            refine S_aload_n X dX5_peek_85 rfl hL0_0 ?_
            refine S_get (v := iv a1) X fgX5_15_8 0 rfl rfl dX5_peek_86 ?_
            refine S_iald X 2 rfl (by omega) (by omega) (nle rfl) dX5_peek_89 ?_
            have hb_3 := hT2 a1 (by omega) (by omega)
            refine S_goto (tgt := 94) X dX5_peek_90 (by decide) ?_
            exact S_iret X (nle rfl) (nle rfl) dX5_peek_94 (hPo _ _ (⟨by rw [hs]; unfold ch; rw [if_pos (by omega)], by rw [hs]⟩))
        ·
          refine S_aload_n X dX5_peek_41 rfl hL0_0 ?_
          refine S_dup X dX5_peek_42 ?_
          refine S_get (v := iv a1) X fgX5_15_8 0 rfl rfl dX5_peek_43 ?_
          refine S_iconst X dX5_peek_46 ?_
          refine S_iadd X dX5_peek_47 ?_
          refine S_put X fpX5_15_8 0 rfl FT_i dX5_peek_48 ?_
          refine S_w (ws' := [(h0, ob 8 (uF (uF (uF f 1 (iv (a1 + 1))) 2 (iv w)) 4 (iv x))), (ht, ob 6 ft), (hb, ar 160 T)]) (by simp only [List.set]; rw [uF_mv (j := 4) (k := 1) (by decide), uF_mv (j := 2) (k := 1) (by decide), uF_same (k := 1)]) ?_
          refine S_goto (tgt := 0) X dX5_peek_51 (by decide) ?_
          exact ih0 (a1 + 1) _ (by omega) ((sk_blank (by omega) (by omega)).symm.trans hk) hL0_0 (by omega)
  exact lp0_0 (Int.toNat (160 - a) + 1) a _ (by omega) (rfl) rfl (by omega)
set_option maxHeartbeats 4000000 in
set_option maxRecDepth 100000 in
theorem kX5_take_8 (l : Launch) (h0 : Nat) (ht : Nat) (hb : Nat) (f : Nat → AV) (ft : Nat → AV) (T : Int → Int) (n : Int) (a : Int) (w : Int) (x : Int) (c0 : Int) (hf0 : f 0 = rv ht) (hf1 : ft 0 = rv hb) (hf2 : ft 1 = iv n) (hT : okT T n) (ha : 0 ≤ a ∧ a ≤ n) (hc : inR c0) : AMi l yX5_take cX5_take 2 .boolean 1 0 0 [rv h0, iv c0] [(h0, ob 8 (uF (uF (uF f 1 (iv a)) 2 (iv w)) 4 (iv x))), (ht, ob 6 ft), (hb, ar 160 T)] (fun z u => (z = 0 ∧ u = [(h0, ob 8 (uF (uF (uF f 1 (iv (sk T n a))) 2 (iv w)) 4 (iv x))), (ht, ob 6 ft), (hb, ar 160 T)] ∧ ¬ ch T n (sk T n a) = c0) ∨ (z = 1 ∧ u = [(h0, ob 8 (uF (uF (uF f 1 (iv (sk T n a + 1))) 2 (iv w)) 4 (iv x))), (ht, ob 6 ft), (hb, ar 160 T)] ∧ ch T n (sk T n a) = c0)) := by
  refine AMi.of2 rfl (nle rfl) ?_
  intro D G A p e s m args below meth c Po hPo X
  obtain ⟨hn0, hn1, hT2⟩ := id hT
  have hsk := sk_in (T := T) ha.2
  have hch := ch_in (a := sk T n a) hT (by omega)
  refine S_aload_n X dX5_take_0 rfl rfl ?_
  refine S_calli X (kX5_peek_8 l h0 ht hb f ft T n a w x hf0 hf1 hf2 (by omega) (by omega)) (is := [0, 1, 2]) rfl (run_U X lkX5_40_8 0 rfl rfl (is := [0, 1, 2]) (avs := []) (rest := []) rfl rfl (nle rfl) ⟨nle rfl, nle rfl⟩ ⟨nle rfl, nle rfl⟩ dX5_take_1 (by decide) rfl) (fun z_3 u_1 hp_2 => ?_)
  obtain ⟨hz_4, hu_5⟩ := hp_2
  subst hz_4
  subst hu_5
  refine ⟨rfl, ?_⟩
  refine S_w (ws' := [(h0, ob 8 (uF (uF (uF f 1 (iv (sk T n a))) 2 (iv w)) 4 (iv x))), (ht, ob 6 ft), (hb, ar 160 T)]) rfl ?_
  refine S_iload_n X dX5_take_4 rfl rfl ?_
  refine S_icmp_eq (tgt := 10) X dX5_take_5 (by decide) (by omega) (by omega) (fun c_6 => ?_) (fun c_6 => ?_)
  ·
    refine S_aload_n X dX5_take_10 rfl rfl ?_
    refine S_dup X dX5_take_11 ?_
    refine S_get (v := iv (sk T n a)) X fgX5_15_8 0 rfl rfl dX5_take_12 ?_
    refine S_iconst X dX5_take_15 ?_
    refine S_iadd X dX5_take_16 ?_
    refine S_put X fpX5_15_8 0 rfl FT_i dX5_take_17 ?_
    refine S_w (ws' := [(h0, ob 8 (uF (uF (uF f 1 (iv ((sk T n a) + 1))) 2 (iv w)) 4 (iv x))), (ht, ob 6 ft), (hb, ar 160 T)]) (by simp only [List.set]; rw [uF_mv (j := 4) (k := 1) (by decide), uF_mv (j := 2) (k := 1) (by decide), uF_same (k := 1)]) ?_
    refine S_iconst X dX5_take_20 ?_
    exact S_zret X (Or.inr rfl) (nle rfl) (nle rfl) dX5_take_21 (hPo _ _ (Or.inr (⟨by first | rfl | omega, rfl, by first | rfl | assumption | omega⟩)))
  ·
    refine S_iconst X dX5_take_8 ?_
    exact S_zret X (Or.inl rfl) (nle rfl) (nle rfl) dX5_take_9 (hPo _ _ (Or.inl (⟨by first | rfl | omega, rfl, by first | rfl | assumption | omega⟩)))
set_option maxHeartbeats 4000000 in
set_option maxRecDepth 100000 in
theorem kX5_fail_8 (l : Launch) (h0 : Nat) (ht : Nat) (hb : Nat) (f : Nat → AV) (ft : Nat → AV) (T : Int → Int) (n : Int) (a : Int) (w : Int) (x : Int) (hf0 : f 0 = rv ht) (hf1 : ft 0 = rv hb) (hf2 : ft 1 = iv n) : AMi l yX5_fail cX5_fail 1 .boolean 0 0 0 [rv h0] [(h0, ob 8 (uF (uF (uF f 1 (iv a)) 2 (iv w)) 4 (iv x))), (ht, ob 6 ft), (hb, ar 160 T)] (fun z u => z = 0 ∧ u = [(h0, ob 8 (uF (uF (uF f 1 (iv a)) 2 (iv a)) 4 (iv x))), (ht, ob 6 ft), (hb, ar 160 T)]) := by
  refine AMi.of2 rfl (nle rfl) ?_
  intro D G A p e s m args below meth c Po hPo X
  refine S_aload_n X dX5_fail_0 rfl rfl ?_
  refine S_aload_n X dX5_fail_1 rfl rfl ?_
  refine S_get (v := iv a) X fgX5_15_8 0 rfl rfl dX5_fail_2 ?_
  refine S_put X fpX5_19_8 0 rfl FT_i dX5_fail_5 ?_
  refine S_w (ws' := [(h0, ob 8 (uF (uF (uF f 1 (iv a)) 2 (iv a)) 4 (iv x))), (ht, ob 6 ft), (hb, ar 160 T)]) (by simp only [List.set]; rw [uF_mv (j := 4) (k := 2) (by decide), uF_same (k := 2)]) ?_
  refine S_iconst X dX5_fail_8 ?_
  exact S_zret X (Or.inl rfl) (nle rfl) (nle rfl) dX5_fail_9 (hPo _ _ (⟨by first | rfl | omega, rfl⟩))
set_option maxHeartbeats 4000000 in
set_option maxRecDepth 100000 in
theorem kX5_readNumber_8 (l : Launch) (h0 : Nat) (ht : Nat) (hb : Nat) (f : Nat → AV) (ft : Nat → AV) (T : Int → Int) (n : Int) (a : Int) (w : Int) (x : Int) (dg : Int) (lo : Int) (hi : Int) (hf0 : f 0 = rv ht) (hf1 : ft 0 = rv hb) (hf2 : ft 1 = iv n) (hT : okT T n) (ha : 0 ≤ a ∧ a ≤ n) (hd : 1 ≤ dg ∧ dg ≤ 4 ∧ 0 ≤ lo ∧ lo ≤ 1 ∧ 0 ≤ hi ∧ hi ≤ 9999) : AMi l yX5_readNumber cX5_readNumber 6 .int 1 0 0 [rv h0, iv dg, iv lo, iv hi] [(h0, ob 8 (uF (uF (uF f 1 (iv a)) 2 (iv w)) 4 (iv x))), (ht, ob 6 ft), (hb, ar 160 T)] (fun z u => (∃ a2 : Int, ∃ fl : Int, z = -1 ∧ u = [(h0, ob 8 (uF (uF (uF f 1 (iv a2)) 2 (iv fl)) 4 (iv x))), (ht, ob 6 ft), (hb, ar 160 T)] ∧ pNum T n dg lo hi a = .inl fl ∧ (0 ≤ a2 ∧ a2 ≤ n)) ∨ (∃ a2 : Int, ∃ v2 : Int, z = v2 ∧ u = [(h0, ob 8 (uF (uF (uF f 1 (iv a2)) 2 (iv w)) 4 (iv x))), (ht, ob 6 ft), (hb, ar 160 T)] ∧ pNum T n dg lo hi a = .inr (a2, v2))) := by
  refine AMi.of2 rfl (nle rfl) ?_
  intro D G A p e s m args below meth c Po hPo X
  obtain ⟨hn0, hn1, hT2⟩ := id hT
  have hsk := sk_in (T := T) ha.2
  have hch := ch_in (a := sk T n a) hT (by omega)
  refine S_aload_n X dX5_readNumber_0 rfl rfl ?_
  refine S_calli X (kX5_peek_8 l h0 ht hb f ft T n a w x hf0 hf1 hf2 (by omega) (by omega)) (is := [0, 1, 2]) rfl (run_U X lkX5_40_8 0 rfl rfl (is := [0, 1, 2]) (avs := []) (rest := []) rfl rfl (nle rfl) ⟨nle rfl, nle rfl⟩ ⟨nle rfl, nle rfl⟩ dX5_readNumber_1 (by decide) rfl) (fun z_3 u_1 hp_2 => ?_)
  obtain ⟨hz_4, hu_5⟩ := hp_2
  subst hz_4
  subst hu_5
  refine ⟨rfl, ?_⟩
  refine S_w (ws' := [(h0, ob 8 (uF (uF (uF f 1 (iv (sk T n a))) 2 (iv w)) 4 (iv x))), (ht, ob 6 ft), (hb, ar 160 T)]) rfl ?_
  refine S_calli X (kX5_isDigit l (ch T n (sk T n a)) (by omega)) (is := []) rfl (run_S X lkX5_55 (is := []) (avs := [iv (ch T n (sk T n a))]) (rest := []) rfl rfl (nle rfl) ⟨nle rfl, nle rfl⟩ ⟨nle rfl, nle rfl⟩ dX5_readNumber_4 (by decide) rfl) (fun z_8 u_6 hp_7 => ?_)
  rcases hp_7 with ⟨hz_9, hu_10, hd_11⟩ | ⟨hz_12, hu_13, hd_14⟩
  ·
    subst hz_9
    subst hu_10
    refine ⟨rfl, ?_⟩
    refine S_w (ws' := [(h0, ob 8 (uF (uF (uF f 1 (iv (sk T n a))) 2 (iv w)) 4 (iv x))), (ht, ob 6 ft), (hb, ar 160 T)]) rfl ?_
    refine S_if_ne (tgt := 17) X dX5_readNumber_7 (by decide) (by decide) (fun h9 => absurd h9 (by decide)) (fun _ => ?_)
    refine S_aload_n X dX5_readNumber_10 rfl rfl ?_
    refine S_calli X (kX5_fail_8 l h0 ht hb f ft T n (sk T n a) w x hf0 hf1 hf2) (is := [0, 1, 2]) rfl (run_U X lkX5_48_8 0 rfl rfl (is := [0, 1, 2]) (avs := []) (rest := []) rfl rfl (nle rfl) ⟨nle rfl, nle rfl⟩ ⟨nle rfl, nle rfl⟩ dX5_readNumber_11 (by decide) rfl) (fun z_18 u_16 hp_17 => ?_)
    obtain ⟨hz_19, hu_20⟩ := hp_17
    subst hz_19
    subst hu_20
    refine ⟨rfl, ?_⟩
    refine S_w (ws' := [(h0, ob 8 (uF (uF (uF f 1 (iv (sk T n a))) 2 (iv (sk T n a))) 4 (iv x))), (ht, ob 6 ft), (hb, ar 160 T)]) rfl ?_
    refine S_pop X dX5_readNumber_14 ?_
    refine S_iconst X dX5_readNumber_15 ?_
    exact S_iret X (nle rfl) (nle rfl) dX5_readNumber_16 (hPo _ _ (Or.inl ⟨_, _, rfl, rfl, by unfold pNum; rw [if_neg (by omega)], by omega, by omega⟩))
  ·
    subst hz_12
    subst hu_13
    refine ⟨rfl, ?_⟩
    refine S_w (ws' := [(h0, ob 8 (uF (uF (uF f 1 (iv (sk T n a))) 2 (iv w)) 4 (iv x))), (ht, ob 6 ft), (hb, ar 160 T)]) rfl ?_
    refine S_if_ne (tgt := 17) X dX5_readNumber_7 (by decide) (by decide) (fun _ => ?_) (fun h9 => absurd h9 (by decide))
    have hd0 : 48 ≤ ch T n (sk T n a) ∧ ch T n (sk T n a) ≤ 57 := by assumption
    have hlt : sk T n a < n := ch_lt (T := T) (by omega)
    refine S_iconst X dX5_readNumber_17 ?_
    refine S_istore X dX5_readNumber_18 (nle rfl) ?_
    refine S_aload_n X dX5_readNumber_20 rfl rfl ?_
    refine S_get (v := iv (sk T n a)) X fgX5_15_8 0 rfl rfl dX5_readNumber_21 ?_
    refine S_istore X dX5_readNumber_24 (nle rfl) ?_
    have lp26_1 : ∀ (N : Nat) (a1 : Int) (v : Int) (L : Nat → Option AV), sk T n a ≤ a1 ∧ a1 ≤ n ∧ a1 - sk T n a ≤ dg → (a1 - sk T n a = 0 ∧ v = 0) ∨ (a1 - sk T n a = 1 ∧ 0 ≤ v ∧ v ≤ 9) ∨ (a1 - sk T n a = 2 ∧ 0 ≤ v ∧ v ≤ 99) ∨ (a1 - sk T n a = 3 ∧ 0 ≤ v ∧ v ≤ 999) ∨ (a1 - sk T n a = 4 ∧ 0 ≤ v ∧ v ≤ 9999) → (∀ r, numF T n dg (sk T n a) (6 - (a1 - sk T n a).toNat) a1 v = r → pNum T n dg lo hi a = numE lo hi r) → L 0 = some (rv h0) → L 1 = some (iv dg) → L 2 = some (iv lo) → L 3 = some (iv hi) → L 4 = some (iv v) → L 5 = some (iv (sk T n a)) → 161 - a1 < (N : Int) → S_ p l e (rmD 1 0 0) s m args below meth c (MQ below (QcI D G A Po) args s 0 0 A) D G A 6 0 0 26 L [] [(h0, ob 8 (uF (uF (uF f 1 (iv a1)) 2 (iv w)) 4 (iv x))), (ht, ob 6 ft), (hb, ar 160 T)] := by
      intro N
      induction N with
      | zero =>
        intro a1 v L26 hi1 hv hk hL26_0 hL26_1 hL26_2 hL26_3 hL26_4 hL26_5 hN26
        exfalso; omega
      | succ N ih26 =>
        intro a1 v L26 hi1 hv hk hL26_0 hL26_1 hL26_2 hL26_3 hL26_4 hL26_5 hN26
        refine S_aload_n X dX5_readNumber_26 rfl hL26_0 ?_
        refine S_get (v := iv a1) X fgX5_15_8 0 rfl rfl dX5_readNumber_27 ?_
        refine S_aload_n X dX5_readNumber_30 rfl hL26_0 ?_
        refine S_get X fgX5_9_8 0 rfl hf0 dX5_readNumber_31 ?_
        refine S_get X fgX5_37_6 1 rfl hf2 dX5_readNumber_34 ?_
        refine S_icmp_ge (tgt := 122) X dX5_readNumber_37 (by decide) (by omega) (by omega) (fun c_22 => ?_) (fun c_22 => ?_)
        ·
          refine S_iload X dX5_readNumber_122 hL26_4 ?_
          refine S_iload_n X dX5_readNumber_124 rfl hL26_2 ?_
          refine S_icmp_lt (tgt := 134) X dX5_readNumber_125 (by decide) (by omega) (by omega) (fun c_23 => ?_) (fun c_23 => ?_)
          ·
            refine S_aload_n X dX5_readNumber_134 rfl hL26_0 ?_
            refine S_aload_n X dX5_readNumber_135 rfl hL26_0 ?_
            refine S_get (v := iv a1) X fgX5_15_8 0 rfl rfl dX5_readNumber_136 ?_
            refine S_iconst X dX5_readNumber_139 ?_
            refine S_isub X dX5_readNumber_140 ?_
            refine S_put X fpX5_19_8 0 rfl FT_i dX5_readNumber_141 ?_
            refine S_w (ws' := [(h0, ob 8 (uF (uF (uF f 1 (iv a1)) 2 (iv (a1 - 1))) 4 (iv x))), (ht, ob 6 ft), (hb, ar 160 T)]) (by simp only [List.set]; rw [uF_mv (j := 4) (k := 2) (by decide), uF_same (k := 2)]) ?_
            refine S_iconst X dX5_readNumber_144 ?_
            exact S_iret X (nle rfl) (nle rfl) dX5_readNumber_145 (hPo _ _ (Or.inl ⟨_, _, rfl, rfl, (hk (.inr (a1, v)) (by rw [fuel6 (by omega) (by omega)]; exact numF_end (by omega))).trans (numE_o (by omega)), by omega, by omega⟩))
          ·
            refine S_iload X dX5_readNumber_128 hL26_4 ?_
            refine S_iload_n X dX5_readNumber_130 rfl hL26_3 ?_
            refine S_icmp_le (tgt := 146) X dX5_readNumber_131 (by decide) (by omega) (by omega) (fun c_24 => ?_) (fun c_24 => ?_)
            ·
              refine S_iload X dX5_readNumber_146 hL26_4 ?_
              exact S_iret X (nle rfl) (nle rfl) dX5_readNumber_148 (hPo _ _ (Or.inr ⟨_, _, rfl, rfl, (hk (.inr (a1, v)) (by rw [fuel6 (by omega) (by omega)]; exact numF_end (by omega))).trans (numE_i (by omega))⟩))
            ·
              refine S_aload_n X dX5_readNumber_134 rfl hL26_0 ?_
              refine S_aload_n X dX5_readNumber_135 rfl hL26_0 ?_
              refine S_get (v := iv a1) X fgX5_15_8 0 rfl rfl dX5_readNumber_136 ?_
              refine S_iconst X dX5_readNumber_139 ?_
              refine S_isub X dX5_readNumber_140 ?_
              refine S_put X fpX5_19_8 0 rfl FT_i dX5_readNumber_141 ?_
              refine S_w (ws' := [(h0, ob 8 (uF (uF (uF f 1 (iv a1)) 2 (iv (a1 - 1))) 4 (iv x))), (ht, ob 6 ft), (hb, ar 160 T)]) (by simp only [List.set]; rw [uF_mv (j := 4) (k := 2) (by decide), uF_same (k := 2)]) ?_
              refine S_iconst X dX5_readNumber_144 ?_
              exact S_iret X (nle rfl) (nle rfl) dX5_readNumber_145 (hPo _ _ (Or.inl ⟨_, _, rfl, rfl, (hk (.inr (a1, v)) (by rw [fuel6 (by omega) (by omega)]; exact numF_end (by omega))).trans (numE_o (by omega)), by omega, by omega⟩))
        ·
          refine S_aload_n X dX5_readNumber_40 rfl hL26_0 ?_
          refine S_get (v := iv a1) X fgX5_15_8 0 rfl rfl dX5_readNumber_41 ?_
          refine S_sipush X dX5_readNumber_44 rfl ?_
          refine S_icmp_ge (tgt := 122) X dX5_readNumber_47 (by decide) (by omega) (by decide) (fun c_25 => by exfalso; omega) (fun c_25 => ?_)
          refine S_aload_n X dX5_readNumber_50 rfl hL26_0 ?_
          refine S_get X fgX5_9_8 0 rfl hf0 dX5_readNumber_51 ?_
          refine S_get X fgX5_51_6 1 rfl hf1 dX5_readNumber_54 ?_
          refine S_aload_n X dX5_readNumber_57 rfl hL26_0 ?_
          refine S_get (v := iv a1) X fgX5_15_8 0 rfl rfl dX5_readNumber_58 ?_
          refine S_iald X 2 rfl (by omega) (by omega) (nle rfl) dX5_readNumber_61 ?_
          have hb_4 := hT2 a1 (by omega) (by omega)
          refine S_calli X (kX5_isDigit l (T a1) (by omega)) (is := []) rfl (run_S X lkX5_55 (is := []) (avs := [iv (T a1)]) (rest := []) rfl rfl (nle rfl) ⟨nle rfl, nle rfl⟩ ⟨nle rfl, nle rfl⟩ dX5_readNumber_62 (by decide) rfl) (fun z_28 u_26 hp_27 => ?_)
          rcases hp_27 with ⟨hz_29, hu_30, hd_31⟩ | ⟨hz_32, hu_33, hd_34⟩
          ·
            subst hz_29
            subst hu_30
            refine ⟨rfl, ?_⟩
            refine S_w (ws' := [(h0, ob 8 (uF (uF (uF f 1 (iv a1)) 2 (iv w)) 4 (iv x))), (ht, ob 6 ft), (hb, ar 160 T)]) rfl ?_
            refine S_if_eq (tgt := 122) X dX5_readNumber_65 (by decide) (by decide) (fun _ => ?_) (fun h9 => absurd h9 (by decide))
            refine S_iload X dX5_readNumber_122 hL26_4 ?_
            refine S_iload_n X dX5_readNumber_124 rfl hL26_2 ?_
            refine S_icmp_lt (tgt := 134) X dX5_readNumber_125 (by decide) (by omega) (by omega) (fun c_36 => ?_) (fun c_36 => ?_)
            ·
              refine S_aload_n X dX5_readNumber_134 rfl hL26_0 ?_
              refine S_aload_n X dX5_readNumber_135 rfl hL26_0 ?_
              refine S_get (v := iv a1) X fgX5_15_8 0 rfl rfl dX5_readNumber_136 ?_
              refine S_iconst X dX5_readNumber_139 ?_
              refine S_isub X dX5_readNumber_140 ?_
              refine S_put X fpX5_19_8 0 rfl FT_i dX5_readNumber_141 ?_
              refine S_w (ws' := [(h0, ob 8 (uF (uF (uF f 1 (iv a1)) 2 (iv (a1 - 1))) 4 (iv x))), (ht, ob 6 ft), (hb, ar 160 T)]) (by simp only [List.set]; rw [uF_mv (j := 4) (k := 2) (by decide), uF_same (k := 2)]) ?_
              refine S_iconst X dX5_readNumber_144 ?_
              exact S_iret X (nle rfl) (nle rfl) dX5_readNumber_145 (hPo _ _ (Or.inl ⟨_, _, rfl, rfl, (hk (.inr (a1, v)) (by rw [fuel6 (by omega) (by omega)]; exact numF_end (by omega))).trans (numE_o (by omega)), by omega, by omega⟩))
            ·
              refine S_iload X dX5_readNumber_128 hL26_4 ?_
              refine S_iload_n X dX5_readNumber_130 rfl hL26_3 ?_
              refine S_icmp_le (tgt := 146) X dX5_readNumber_131 (by decide) (by omega) (by omega) (fun c_37 => ?_) (fun c_37 => ?_)
              ·
                refine S_iload X dX5_readNumber_146 hL26_4 ?_
                exact S_iret X (nle rfl) (nle rfl) dX5_readNumber_148 (hPo _ _ (Or.inr ⟨_, _, rfl, rfl, (hk (.inr (a1, v)) (by rw [fuel6 (by omega) (by omega)]; exact numF_end (by omega))).trans (numE_i (by omega))⟩))
              ·
                refine S_aload_n X dX5_readNumber_134 rfl hL26_0 ?_
                refine S_aload_n X dX5_readNumber_135 rfl hL26_0 ?_
                refine S_get (v := iv a1) X fgX5_15_8 0 rfl rfl dX5_readNumber_136 ?_
                refine S_iconst X dX5_readNumber_139 ?_
                refine S_isub X dX5_readNumber_140 ?_
                refine S_put X fpX5_19_8 0 rfl FT_i dX5_readNumber_141 ?_
                refine S_w (ws' := [(h0, ob 8 (uF (uF (uF f 1 (iv a1)) 2 (iv (a1 - 1))) 4 (iv x))), (ht, ob 6 ft), (hb, ar 160 T)]) (by simp only [List.set]; rw [uF_mv (j := 4) (k := 2) (by decide), uF_same (k := 2)]) ?_
                refine S_iconst X dX5_readNumber_144 ?_
                exact S_iret X (nle rfl) (nle rfl) dX5_readNumber_145 (hPo _ _ (Or.inl ⟨_, _, rfl, rfl, (hk (.inr (a1, v)) (by rw [fuel6 (by omega) (by omega)]; exact numF_end (by omega))).trans (numE_o (by omega)), by omega, by omega⟩))
          ·
            subst hz_32
            subst hu_33
            refine ⟨rfl, ?_⟩
            refine S_w (ws' := [(h0, ob 8 (uF (uF (uF f 1 (iv a1)) 2 (iv w)) 4 (iv x))), (ht, ob 6 ft), (hb, ar 160 T)]) rfl ?_
            refine S_if_eq (tgt := 122) X dX5_readNumber_65 (by decide) (by decide) (fun h9 => absurd h9 (by decide)) (fun _ => ?_)
            refine S_aload_n X dX5_readNumber_68 rfl hL26_0 ?_
            refine S_get (v := iv a1) X fgX5_15_8 0 rfl rfl dX5_readNumber_69 ?_
            refine S_iload X dX5_readNumber_72 hL26_5 ?_
            refine S_isub X dX5_readNumber_74 ?_
            refine S_iload_n X dX5_readNumber_75 rfl hL26_1 ?_
            refine S_icmp_lt (tgt := 86) X dX5_readNumber_76 (by decide) (by omega) (by omega) (fun c_39 => ?_) (fun c_39 => ?_)
            ·
              refine S_iload X dX5_readNumber_86 hL26_4 ?_
              refine S_bipush X dX5_readNumber_88 rfl ?_
              refine S_imul X dX5_readNumber_90 ?_
              refine S_aload_n X dX5_readNumber_91 rfl hL26_0 ?_
              refine S_get X fgX5_9_8 0 rfl hf0 dX5_readNumber_92 ?_
              refine S_get X fgX5_51_6 1 rfl hf1 dX5_readNumber_95 ?_
              refine S_aload_n X dX5_readNumber_98 rfl hL26_0 ?_
              refine S_get (v := iv a1) X fgX5_15_8 0 rfl rfl dX5_readNumber_99 ?_
              refine S_iald X 2 rfl (by omega) (by omega) (nle rfl) dX5_readNumber_102 ?_
              have hb_5 := hT2 a1 (by omega) (by omega)
              refine S_iadd X dX5_readNumber_103 ?_
              refine S_bipush X dX5_readNumber_104 rfl ?_
              refine S_isub X dX5_readNumber_106 ?_
              refine S_istore X dX5_readNumber_107 (nle rfl) ?_
              refine S_aload_n X dX5_readNumber_109 rfl hL26_0 ?_
              refine S_dup X dX5_readNumber_110 ?_
              refine S_get (v := iv a1) X fgX5_15_8 0 rfl rfl dX5_readNumber_111 ?_
              refine S_iconst X dX5_readNumber_114 ?_
              refine S_iadd X dX5_readNumber_115 ?_
              refine S_put X fpX5_15_8 0 rfl FT_i dX5_readNumber_116 ?_
              refine S_w (ws' := [(h0, ob 8 (uF (uF (uF f 1 (iv (a1 + 1))) 2 (iv w)) 4 (iv x))), (ht, ob 6 ft), (hb, ar 160 T)]) (by simp only [List.set]; rw [uF_mv (j := 4) (k := 1) (by decide), uF_mv (j := 2) (k := 1) (by decide), uF_same (k := 1)]) ?_
              refine S_goto (tgt := 26) X dX5_readNumber_119 (by decide) ?_
              exact ih26 (a1 + 1) (((v * 10) + (T a1)) - 48) _ (by omega) (by omega) (fun r9 h9 => hk r9 (by rw [show 6 - (a1 - sk T n a).toNat = (6 - (a1 + 1 - sk T n a).toNat) + 1 by omega, numF_dig ⟨by omega, by omega, by omega⟩ (by omega)]; exact h9)) hL26_0 hL26_1 hL26_2 hL26_3 rfl hL26_5 (by omega)
            ·
              refine S_aload_n X dX5_readNumber_79 rfl hL26_0 ?_
              refine S_calli X (kX5_fail_8 l h0 ht hb f ft T n a1 w x hf0 hf1 hf2) (is := [0, 1, 2]) rfl (run_U X lkX5_48_8 0 rfl rfl (is := [0, 1, 2]) (avs := []) (rest := []) rfl rfl (nle rfl) ⟨nle rfl, nle rfl⟩ ⟨nle rfl, nle rfl⟩ dX5_readNumber_80 (by decide) rfl) (fun z_42 u_40 hp_41 => ?_)
              obtain ⟨hz_43, hu_44⟩ := hp_41
              subst hz_43
              subst hu_44
              refine ⟨rfl, ?_⟩
              refine S_w (ws' := [(h0, ob 8 (uF (uF (uF f 1 (iv a1)) 2 (iv a1)) 4 (iv x))), (ht, ob 6 ft), (hb, ar 160 T)]) rfl ?_
              refine S_pop X dX5_readNumber_83 ?_
              refine S_iconst X dX5_readNumber_84 ?_
              exact S_iret X (nle rfl) (nle rfl) dX5_readNumber_85 (hPo _ _ (Or.inl ⟨_, _, rfl, rfl, hk (.inl a1) (by rw [fuel6 (by omega) (by omega)]; exact numF_big ⟨by omega, by omega, by omega⟩ (by omega)), by omega, by omega⟩))
    exact lp26_1 (Int.toNat (161 - (sk T n a)) + 1) (sk T n a) 0 _ (by omega) (by omega) (fun r9 h9 => by rw [Int.sub_self] at h9; unfold pNum; rw [if_pos hd0]; exact congrArg (numE lo hi) h9) rfl rfl rfl rfl rfl rfl (by omega)
set_option maxHeartbeats 4000000 in
set_option maxRecDepth 100000 in
theorem kX5_nextClause_8 (l : Launch) (h0 : Nat) (ht : Nat) (hb : Nat) (f : Nat → AV) (ft : Nat → AV) (T : Int → Int) (n : Int) (a : Int) (w : Int) (x : Int) (hf0 : f 0 = rv ht) (hf1 : ft 0 = rv hb) (hf2 : ft 1 = iv n) (hT : okT T n) (ha : 0 ≤ a ∧ a ≤ n) : AMi l yX5_nextClause cX5_nextClause 1 .boolean 2 0 0 [rv h0] [(h0, ob 8 (uF (uF (uF f 1 (iv a)) 2 (iv w)) 4 (iv x))), (ht, ob 6 ft), (hb, ar 160 T)] (fun z u => (z = 0 ∧ u = [(h0, ob 8 (uF (uF (uF f 1 (iv (sk T n a))) 2 (iv w)) 4 (iv x))), (ht, ob 6 ft), (hb, ar 160 T)] ∧ ch T n (sk T n a) = 0) ∨ (∃ a2 : Int, ∃ fl : Int, z = 0 ∧ u = [(h0, ob 8 (uF (uF (uF f 1 (iv a2)) 2 (iv fl)) 4 (iv x))), (ht, ob 6 ft), (hb, ar 160 T)] ∧ (¬ ch T n (sk T n a) = 0 ∧ ¬ ch T n (sk T n a) = 59) ∧ a2 = sk T n a ∧ fl = sk T n a) ∨ (∃ a2 : Int, z = 1 ∧ u = [(h0, ob 8 (uF (uF (uF f 1 (iv a2)) 2 (iv w)) 4 (iv x))), (ht, ob 6 ft), (hb, ar 160 T)] ∧ ch T n (sk T n a) = 59 ∧ a2 = sk T n a + 1)) := by
  refine AMi.of2 rfl (nle rfl) ?_
  intro D G A p e s m args below meth c Po hPo X
  obtain ⟨hn0, hn1, hT2⟩ := id hT
  have hsk := sk_in (T := T) ha.2
  have hch := ch_in (a := sk T n a) hT (by omega)
  refine S_aload_n X dX5_nextClause_0 rfl rfl ?_
  refine S_calli X (kX5_peek_8 l h0 ht hb f ft T n a w x hf0 hf1 hf2 (by omega) (by omega)) (is := [0, 1, 2]) rfl (run_U X lkX5_40_8 0 rfl rfl (is := [0, 1, 2]) (avs := []) (rest := []) rfl rfl (nle rfl) ⟨nle rfl, nle rfl⟩ ⟨nle rfl, nle rfl⟩ dX5_nextClause_1 (by decide) rfl) (fun z_3 u_1 hp_2 => ?_)
  obtain ⟨hz_4, hu_5⟩ := hp_2
  subst hz_4
  subst hu_5
  refine ⟨rfl, ?_⟩
  refine S_w (ws' := [(h0, ob 8 (uF (uF (uF f 1 (iv (sk T n a))) 2 (iv w)) 4 (iv x))), (ht, ob 6 ft), (hb, ar 160 T)]) rfl ?_
  refine S_if_ne (tgt := 9) X dX5_nextClause_4 (by decide) (by omega) (fun c_6 => ?_) (fun c_6 => ?_)
  ·
    refine S_aload_n X dX5_nextClause_9 rfl rfl ?_
    refine S_bipush X dX5_nextClause_10 rfl ?_
    refine S_calli X (kX5_take_8 l h0 ht hb f ft T n (sk T n a) w x 59 hf0 hf1 hf2 (by omega) (by omega) (by omega)) (is := [0, 1, 2]) rfl (run_U X lkX5_44_8 0 rfl rfl (is := [0, 1, 2]) (avs := [iv 59]) (rest := []) rfl rfl (nle rfl) ⟨nle rfl, nle rfl⟩ ⟨nle rfl, nle rfl⟩ dX5_nextClause_12 (by decide) rfl) (fun z_9 u_7 hp_8 => ?_)
    rcases hp_8 with ⟨hz_10, hu_11, hq_12⟩ | ⟨hz_13, hu_14, hq_15⟩
    ·
      subst hz_10
      subst hu_11
      refine ⟨rfl, ?_⟩
      refine S_w (ws' := [(h0, ob 8 (uF (uF (uF f 1 (iv (sk T n (sk T n a)))) 2 (iv w)) 4 (iv x))), (ht, ob 6 ft), (hb, ar 160 T)]) rfl ?_
      rw [sk_idem] at hq_12
      refine S_if_ne (tgt := 25) X dX5_nextClause_15 (by decide) (by decide) (fun h9 => absurd h9 (by decide)) (fun _ => ?_)
      refine S_aload_n X dX5_nextClause_18 rfl rfl ?_
      refine S_calli X (kX5_fail_8 l h0 ht hb f ft T n (sk T n (sk T n a)) w x hf0 hf1 hf2) (is := [0, 1, 2]) rfl (run_U X lkX5_48_8 0 rfl rfl (is := [0, 1, 2]) (avs := []) (rest := []) rfl rfl (nle rfl) ⟨nle rfl, nle rfl⟩ ⟨nle rfl, nle rfl⟩ dX5_nextClause_19 (by decide) rfl) (fun z_19 u_17 hp_18 => ?_)
      obtain ⟨hz_20, hu_21⟩ := hp_18
      subst hz_20
      subst hu_21
      refine ⟨rfl, ?_⟩
      refine S_w (ws' := [(h0, ob 8 (uF (uF (uF f 1 (iv (sk T n (sk T n a)))) 2 (iv (sk T n (sk T n a)))) 4 (iv x))), (ht, ob 6 ft), (hb, ar 160 T)]) rfl ?_
      refine S_if_eq (tgt := 29) X dX5_nextClause_22 (by decide) (by decide) (fun _ => ?_) (fun h9 => absurd h9 (by decide))
      refine S_iconst X dX5_nextClause_29 ?_
      exact S_zret X (Or.inl rfl) (nle rfl) (nle rfl) dX5_nextClause_30 (hPo _ _ (Or.inr (Or.inl (⟨_, _, by first | rfl | omega, rfl, by omega, by rw [sk_idem], by rw [sk_idem]⟩))))
    ·
      subst hz_13
      subst hu_14
      refine ⟨rfl, ?_⟩
      refine S_w (ws' := [(h0, ob 8 (uF (uF (uF f 1 (iv (sk T n (sk T n a) + 1))) 2 (iv w)) 4 (iv x))), (ht, ob 6 ft), (hb, ar 160 T)]) rfl ?_
      rw [sk_idem] at hq_15
      refine S_if_ne (tgt := 25) X dX5_nextClause_15 (by decide) (by decide) (fun _ => ?_) (fun h9 => absurd h9 (by decide))
      refine S_iconst X dX5_nextClause_25 ?_
      refine S_goto (tgt := 30) X dX5_nextClause_26 (by decide) ?_
      exact S_zret X (Or.inr rfl) (nle rfl) (nle rfl) dX5_nextClause_30 (hPo _ _ (Or.inr (Or.inr (⟨_, by first | rfl | omega, rfl, by omega, by rw [sk_idem]⟩))))
  ·
    refine S_iconst X dX5_nextClause_7 ?_
    exact S_zret X (Or.inl rfl) (nle rfl) (nle rfl) dX5_nextClause_8 (hPo _ _ (Or.inl (⟨by first | rfl | omega, rfl, by omega⟩)))
set_option maxHeartbeats 4000000 in
set_option maxRecDepth 100000 in
theorem kX5_peek_2 (l : Launch) (h0 : Nat) (ht : Nat) (hb : Nat) (f : Nat → AV) (ft : Nat → AV) (T : Int → Int) (n : Int) (a : Int) (w : Int) (x : Int) (hf0 : f 0 = rv ht) (hf1 : ft 0 = rv hb) (hf2 : ft 1 = iv n) (hT : okT T n) (ha : 0 ≤ a ∧ a ≤ n) : AMi l yX5_peek cX5_peek 1 .int 0 0 0 [rv h0] [(h0, ob 2 (uF (uF (uF f 1 (iv a)) 2 (iv w)) 4 (iv x))), (ht, ob 6 ft), (hb, ar 160 T)] (fun z u => z = ch T n (sk T n a) ∧ u = [(h0, ob 2 (uF (uF (uF f 1 (iv (sk T n a))) 2 (iv w)) 4 (iv x))), (ht, ob 6 ft), (hb, ar 160 T)]) := by
  refine AMi.of2 rfl (nle rfl) ?_
  intro D G A p e s m args below meth c Po hPo X
  obtain ⟨hn0, hn1, hT2⟩ := id hT
  have lp0_0 : ∀ (N : Nat) (a1 : Int) (L : Nat → Option AV), a ≤ a1 ∧ a1 ≤ n → sk T n a1 = sk T n a → L 0 = some (rv h0) → 160 - a1 < (N : Int) → S_ p l e (rmD 0 0 0) s m args below meth c (MQ below (QcI D G A Po) args s 0 0 A) D G A 1 0 0 0 L [] [(h0, ob 2 (uF (uF (uF f 1 (iv a1)) 2 (iv w)) 4 (iv x))), (ht, ob 6 ft), (hb, ar 160 T)] := by
    intro N
    induction N with
    | zero =>
      intro a1 L0 hi hk hL0_0 hN0
      exfalso; omega
    | succ N ih0 =>
      intro a1 L0 hi hk hL0_0 hN0
      refine S_aload_n X dX5_peek_0 rfl hL0_0 ?_
      refine S_get (v := iv a1) X fgX5_15_2 0 rfl rfl dX5_peek_1 ?_
      refine S_aload_n X dX5_peek_4 rfl hL0_0 ?_
      refine S_get X fgX5_9_2 0 rfl hf0 dX5_peek_5 ?_
      refine S_get X fgX5_37_6 1 rfl hf2 dX5_peek_8 ?_
      refine S_icmp_ge (tgt := 54) X dX5_peek_11 (by decide) (by omega) (by omega) (fun c_1 => ?_) (fun c_1 => ?_)
      ·
        have hs : sk T n a = a1 := by rw [← hk]; exact sk_stop (by omega)
        refine S_aload_n X dX5_peek_54 rfl hL0_0 ?_
        refine S_get (v := iv a1) X fgX5_15_2 0 rfl rfl dX5_peek_55 ?_
        refine S_aload_n X dX5_peek_58 rfl hL0_0 ?_
        refine S_get X fgX5_9_2 0 rfl hf0 dX5_peek_59 ?_
        refine S_get X fgX5_37_6 1 rfl hf2 dX5_peek_62 ?_
        refine S_icmp_ge (tgt := 93) X dX5_peek_65 (by decide) (by omega) (by omega) (fun c_2 => ?_) (fun c_2 => ?_)
        ·
          refine S_iconst X dX5_peek_93 ?_
          exact S_iret X (nle rfl) (nle rfl) dX5_peek_94 (hPo _ _ (⟨by rw [hs]; unfold ch; rw [if_neg (by omega)], by rw [hs]⟩))
        ·
          refine S_aload_n X dX5_peek_68 rfl hL0_0 ?_
          refine S_get (v := iv a1) X fgX5_15_2 0 rfl rfl dX5_peek_69 ?_
          refine S_sipush X dX5_peek_72 rfl ?_
          refine S_icmp_ge (tgt := 93) X dX5_peek_75 (by decide) (by omega) (by decide) (fun c_3 => by exfalso; omega) (fun c_3 => ?_)
          refine S_aload_n X dX5_peek_78 rfl hL0_0 ?_
          refine S_get X fgX5_9_2 0 rfl hf0 dX5_peek_79 ?_
          refine S_get X fgX5_51_6 1 rfl hf1 dX5_peek_82 ?_
          refine S_aload_n X dX5_peek_85 rfl hL0_0 ?_
          refine S_get (v := iv a1) X fgX5_15_2 0 rfl rfl dX5_peek_86 ?_
          refine S_iald X 2 rfl (by omega) (by omega) (nle rfl) dX5_peek_89 ?_
          have hb_6 := hT2 a1 (by omega) (by omega)
          refine S_goto (tgt := 94) X dX5_peek_90 (by decide) ?_
          exact S_iret X (nle rfl) (nle rfl) dX5_peek_94 (hPo _ _ (⟨by rw [hs]; unfold ch; rw [if_pos (by omega)], by rw [hs]⟩))
      ·
        refine S_aload_n X dX5_peek_14 rfl hL0_0 ?_
        refine S_get (v := iv a1) X fgX5_15_2 0 rfl rfl dX5_peek_15 ?_
        refine S_sipush X dX5_peek_18 rfl ?_
        refine S_icmp_ge (tgt := 54) X dX5_peek_21 (by decide) (by omega) (by decide) (fun c_4 => by exfalso; omega) (fun c_4 => ?_)
        refine S_aload_n X dX5_peek_24 rfl hL0_0 ?_
        refine S_get X fgX5_9_2 0 rfl hf0 dX5_peek_25 ?_
        refine S_get X fgX5_51_6 1 rfl hf1 dX5_peek_28 ?_
        refine S_aload_n X dX5_peek_31 rfl hL0_0 ?_
        refine S_get (v := iv a1) X fgX5_15_2 0 rfl rfl dX5_peek_32 ?_
        refine S_iald X 2 rfl (by omega) (by omega) (nle rfl) dX5_peek_35 ?_
        have hb_7 := hT2 a1 (by omega) (by omega)
        refine S_bipush X dX5_peek_36 rfl ?_
        refine S_icmp_ne (tgt := 54) X dX5_peek_38 (by decide) (by omega) (by decide) (fun c_5 => ?_) (fun c_5 => ?_)
        ·
          have hs : sk T n a = a1 := by rw [← hk]; exact sk_stop (by omega)
          refine S_aload_n X dX5_peek_54 rfl hL0_0 ?_
          refine S_get (v := iv a1) X fgX5_15_2 0 rfl rfl dX5_peek_55 ?_
          refine S_aload_n X dX5_peek_58 rfl hL0_0 ?_
          refine S_get X fgX5_9_2 0 rfl hf0 dX5_peek_59 ?_
          refine S_get X fgX5_37_6 1 rfl hf2 dX5_peek_62 ?_
          refine S_icmp_ge (tgt := 93) X dX5_peek_65 (by decide) (by omega) (by omega) (fun c_6 => ?_) (fun c_6 => ?_)
          ·
            refine S_iconst X dX5_peek_93 ?_
            exact S_iret X (nle rfl) (nle rfl) dX5_peek_94 (hPo _ _ (⟨by rw [hs]; unfold ch; rw [if_neg (by omega)], by rw [hs]⟩))
          ·
            refine S_aload_n X dX5_peek_68 rfl hL0_0 ?_
            refine S_get (v := iv a1) X fgX5_15_2 0 rfl rfl dX5_peek_69 ?_
            refine S_sipush X dX5_peek_72 rfl ?_
            refine S_icmp_ge (tgt := 93) X dX5_peek_75 (by decide) (by omega) (by decide) (fun c_7 => by exfalso; omega) (fun c_7 => ?_)
            refine S_aload_n X dX5_peek_78 rfl hL0_0 ?_
            refine S_get X fgX5_9_2 0 rfl hf0 dX5_peek_79 ?_
            refine S_get X fgX5_51_6 1 rfl hf1 dX5_peek_82 ?_
            refine S_aload_n X dX5_peek_85 rfl hL0_0 ?_
            refine S_get (v := iv a1) X fgX5_15_2 0 rfl rfl dX5_peek_86 ?_
            refine S_iald X 2 rfl (by omega) (by omega) (nle rfl) dX5_peek_89 ?_
            have hb_8 := hT2 a1 (by omega) (by omega)
            refine S_goto (tgt := 94) X dX5_peek_90 (by decide) ?_
            exact S_iret X (nle rfl) (nle rfl) dX5_peek_94 (hPo _ _ (⟨by rw [hs]; unfold ch; rw [if_pos (by omega)], by rw [hs]⟩))
        ·
          refine S_aload_n X dX5_peek_41 rfl hL0_0 ?_
          refine S_dup X dX5_peek_42 ?_
          refine S_get (v := iv a1) X fgX5_15_2 0 rfl rfl dX5_peek_43 ?_
          refine S_iconst X dX5_peek_46 ?_
          refine S_iadd X dX5_peek_47 ?_
          refine S_put X fpX5_15_2 0 rfl FT_i dX5_peek_48 ?_
          refine S_w (ws' := [(h0, ob 2 (uF (uF (uF f 1 (iv (a1 + 1))) 2 (iv w)) 4 (iv x))), (ht, ob 6 ft), (hb, ar 160 T)]) (by simp only [List.set]; rw [uF_mv (j := 4) (k := 1) (by decide), uF_mv (j := 2) (k := 1) (by decide), uF_same (k := 1)]) ?_
          refine S_goto (tgt := 0) X dX5_peek_51 (by decide) ?_
          exact ih0 (a1 + 1) _ (by omega) ((sk_blank (by omega) (by omega)).symm.trans hk) hL0_0 (by omega)
  exact lp0_0 (Int.toNat (160 - a) + 1) a _ (by omega) (rfl) rfl (by omega)
set_option maxHeartbeats 4000000 in
set_option maxRecDepth 100000 in
theorem kX5_take_2 (l : Launch) (h0 : Nat) (ht : Nat) (hb : Nat) (f : Nat → AV) (ft : Nat → AV) (T : Int → Int) (n : Int) (a : Int) (w : Int) (x : Int) (c0 : Int) (hf0 : f 0 = rv ht) (hf1 : ft 0 = rv hb) (hf2 : ft 1 = iv n) (hT : okT T n) (ha : 0 ≤ a ∧ a ≤ n) (hc : inR c0) : AMi l yX5_take cX5_take 2 .boolean 1 0 0 [rv h0, iv c0] [(h0, ob 2 (uF (uF (uF f 1 (iv a)) 2 (iv w)) 4 (iv x))), (ht, ob 6 ft), (hb, ar 160 T)] (fun z u => (z = 0 ∧ u = [(h0, ob 2 (uF (uF (uF f 1 (iv (sk T n a))) 2 (iv w)) 4 (iv x))), (ht, ob 6 ft), (hb, ar 160 T)] ∧ ¬ ch T n (sk T n a) = c0) ∨ (z = 1 ∧ u = [(h0, ob 2 (uF (uF (uF f 1 (iv (sk T n a + 1))) 2 (iv w)) 4 (iv x))), (ht, ob 6 ft), (hb, ar 160 T)] ∧ ch T n (sk T n a) = c0)) := by
  refine AMi.of2 rfl (nle rfl) ?_
  intro D G A p e s m args below meth c Po hPo X
  obtain ⟨hn0, hn1, hT2⟩ := id hT
  have hsk := sk_in (T := T) ha.2
  have hch := ch_in (a := sk T n a) hT (by omega)
  refine S_aload_n X dX5_take_0 rfl rfl ?_
  refine S_calli X (kX5_peek_2 l h0 ht hb f ft T n a w x hf0 hf1 hf2 (by omega) (by omega)) (is := [0, 1, 2]) rfl (run_U X lkX5_40_2 0 rfl rfl (is := [0, 1, 2]) (avs := []) (rest := []) rfl rfl (nle rfl) ⟨nle rfl, nle rfl⟩ ⟨nle rfl, nle rfl⟩ dX5_take_1 (by decide) rfl) (fun z_3 u_1 hp_2 => ?_)
  obtain ⟨hz_4, hu_5⟩ := hp_2
  subst hz_4
  subst hu_5
  refine ⟨rfl, ?_⟩
  refine S_w (ws' := [(h0, ob 2 (uF (uF (uF f 1 (iv (sk T n a))) 2 (iv w)) 4 (iv x))), (ht, ob 6 ft), (hb, ar 160 T)]) rfl ?_
  refine S_iload_n X dX5_take_4 rfl rfl ?_
  refine S_icmp_eq (tgt := 10) X dX5_take_5 (by decide) (by omega) (by omega) (fun c_6 => ?_) (fun c_6 => ?_)
  ·
    refine S_aload_n X dX5_take_10 rfl rfl ?_
    refine S_dup X dX5_take_11 ?_
    refine S_get (v := iv (sk T n a)) X fgX5_15_2 0 rfl rfl dX5_take_12 ?_
    refine S_iconst X dX5_take_15 ?_
    refine S_iadd X dX5_take_16 ?_
    refine S_put X fpX5_15_2 0 rfl FT_i dX5_take_17 ?_
    refine S_w (ws' := [(h0, ob 2 (uF (uF (uF f 1 (iv ((sk T n a) + 1))) 2 (iv w)) 4 (iv x))), (ht, ob 6 ft), (hb, ar 160 T)]) (by simp only [List.set]; rw [uF_mv (j := 4) (k := 1) (by decide), uF_mv (j := 2) (k := 1) (by decide), uF_same (k := 1)]) ?_
    refine S_iconst X dX5_take_20 ?_
    exact S_zret X (Or.inr rfl) (nle rfl) (nle rfl) dX5_take_21 (hPo _ _ (Or.inr (⟨by first | rfl | omega, rfl, by first | rfl | assumption | omega⟩)))
  ·
    refine S_iconst X dX5_take_8 ?_
    exact S_zret X (Or.inl rfl) (nle rfl) (nle rfl) dX5_take_9 (hPo _ _ (Or.inl (⟨by first | rfl | omega, rfl, by first | rfl | assumption | omega⟩)))
set_option maxHeartbeats 4000000 in
set_option maxRecDepth 100000 in
theorem kX5_fail_2 (l : Launch) (h0 : Nat) (ht : Nat) (hb : Nat) (f : Nat → AV) (ft : Nat → AV) (T : Int → Int) (n : Int) (a : Int) (w : Int) (x : Int) (hf0 : f 0 = rv ht) (hf1 : ft 0 = rv hb) (hf2 : ft 1 = iv n) : AMi l yX5_fail cX5_fail 1 .boolean 0 0 0 [rv h0] [(h0, ob 2 (uF (uF (uF f 1 (iv a)) 2 (iv w)) 4 (iv x))), (ht, ob 6 ft), (hb, ar 160 T)] (fun z u => z = 0 ∧ u = [(h0, ob 2 (uF (uF (uF f 1 (iv a)) 2 (iv a)) 4 (iv x))), (ht, ob 6 ft), (hb, ar 160 T)]) := by
  refine AMi.of2 rfl (nle rfl) ?_
  intro D G A p e s m args below meth c Po hPo X
  refine S_aload_n X dX5_fail_0 rfl rfl ?_
  refine S_aload_n X dX5_fail_1 rfl rfl ?_
  refine S_get (v := iv a) X fgX5_15_2 0 rfl rfl dX5_fail_2 ?_
  refine S_put X fpX5_19_2 0 rfl FT_i dX5_fail_5 ?_
  refine S_w (ws' := [(h0, ob 2 (uF (uF (uF f 1 (iv a)) 2 (iv a)) 4 (iv x))), (ht, ob 6 ft), (hb, ar 160 T)]) (by simp only [List.set]; rw [uF_mv (j := 4) (k := 2) (by decide), uF_same (k := 2)]) ?_
  refine S_iconst X dX5_fail_8 ?_
  exact S_zret X (Or.inl rfl) (nle rfl) (nle rfl) dX5_fail_9 (hPo _ _ (⟨by first | rfl | omega, rfl⟩))
set_option maxHeartbeats 4000000 in
set_option maxRecDepth 100000 in
theorem kX5_readNumber_2 (l : Launch) (h0 : Nat) (ht : Nat) (hb : Nat) (f : Nat → AV) (ft : Nat → AV) (T : Int → Int) (n : Int) (a : Int) (w : Int) (x : Int) (dg : Int) (lo : Int) (hi : Int) (hf0 : f 0 = rv ht) (hf1 : ft 0 = rv hb) (hf2 : ft 1 = iv n) (hT : okT T n) (ha : 0 ≤ a ∧ a ≤ n) (hd : 1 ≤ dg ∧ dg ≤ 4 ∧ 0 ≤ lo ∧ lo ≤ 1 ∧ 0 ≤ hi ∧ hi ≤ 9999) : AMi l yX5_readNumber cX5_readNumber 6 .int 1 0 0 [rv h0, iv dg, iv lo, iv hi] [(h0, ob 2 (uF (uF (uF f 1 (iv a)) 2 (iv w)) 4 (iv x))), (ht, ob 6 ft), (hb, ar 160 T)] (fun z u => (∃ a2 : Int, ∃ fl : Int, z = -1 ∧ u = [(h0, ob 2 (uF (uF (uF f 1 (iv a2)) 2 (iv fl)) 4 (iv x))), (ht, ob 6 ft), (hb, ar 160 T)] ∧ pNum T n dg lo hi a = .inl fl ∧ (0 ≤ a2 ∧ a2 ≤ n)) ∨ (∃ a2 : Int, ∃ v2 : Int, z = v2 ∧ u = [(h0, ob 2 (uF (uF (uF f 1 (iv a2)) 2 (iv w)) 4 (iv x))), (ht, ob 6 ft), (hb, ar 160 T)] ∧ pNum T n dg lo hi a = .inr (a2, v2))) := by
  refine AMi.of2 rfl (nle rfl) ?_
  intro D G A p e s m args below meth c Po hPo X
  obtain ⟨hn0, hn1, hT2⟩ := id hT
  have hsk := sk_in (T := T) ha.2
  have hch := ch_in (a := sk T n a) hT (by omega)
  refine S_aload_n X dX5_readNumber_0 rfl rfl ?_
  refine S_calli X (kX5_peek_2 l h0 ht hb f ft T n a w x hf0 hf1 hf2 (by omega) (by omega)) (is := [0, 1, 2]) rfl (run_U X lkX5_40_2 0 rfl rfl (is := [0, 1, 2]) (avs := []) (rest := []) rfl rfl (nle rfl) ⟨nle rfl, nle rfl⟩ ⟨nle rfl, nle rfl⟩ dX5_readNumber_1 (by decide) rfl) (fun z_3 u_1 hp_2 => ?_)
  obtain ⟨hz_4, hu_5⟩ := hp_2
  subst hz_4
  subst hu_5
  refine ⟨rfl, ?_⟩
  refine S_w (ws' := [(h0, ob 2 (uF (uF (uF f 1 (iv (sk T n a))) 2 (iv w)) 4 (iv x))), (ht, ob 6 ft), (hb, ar 160 T)]) rfl ?_
  refine S_calli X (kX5_isDigit l (ch T n (sk T n a)) (by omega)) (is := []) rfl (run_S X lkX5_55 (is := []) (avs := [iv (ch T n (sk T n a))]) (rest := []) rfl rfl (nle rfl) ⟨nle rfl, nle rfl⟩ ⟨nle rfl, nle rfl⟩ dX5_readNumber_4 (by decide) rfl) (fun z_8 u_6 hp_7 => ?_)
  rcases hp_7 with ⟨hz_9, hu_10, hd_11⟩ | ⟨hz_12, hu_13, hd_14⟩
  ·
    subst hz_9
    subst hu_10
    refine ⟨rfl, ?_⟩
    refine S_w (ws' := [(h0, ob 2 (uF (uF (uF f 1 (iv (sk T n a))) 2 (iv w)) 4 (iv x))), (ht, ob 6 ft), (hb, ar 160 T)]) rfl ?_
    refine S_if_ne (tgt := 17) X dX5_readNumber_7 (by decide) (by decide) (fun h9 => absurd h9 (by decide)) (fun _ => ?_)
    refine S_aload_n X dX5_readNumber_10 rfl rfl ?_
    refine S_calli X (kX5_fail_2 l h0 ht hb f ft T n (sk T n a) w x hf0 hf1 hf2) (is := [0, 1, 2]) rfl (run_U X lkX5_48_2 0 rfl rfl (is := [0, 1, 2]) (avs := []) (rest := []) rfl rfl (nle rfl) ⟨nle rfl, nle rfl⟩ ⟨nle rfl, nle rfl⟩ dX5_readNumber_11 (by decide) rfl) (fun z_18 u_16 hp_17 => ?_)
    obtain ⟨hz_19, hu_20⟩ := hp_17
    subst hz_19
    subst hu_20
    refine ⟨rfl, ?_⟩
    refine S_w (ws' := [(h0, ob 2 (uF (uF (uF f 1 (iv (sk T n a))) 2 (iv (sk T n a))) 4 (iv x))), (ht, ob 6 ft), (hb, ar 160 T)]) rfl ?_
    refine S_pop X dX5_readNumber_14 ?_
    refine S_iconst X dX5_readNumber_15 ?_
    exact S_iret X (nle rfl) (nle rfl) dX5_readNumber_16 (hPo _ _ (Or.inl ⟨_, _, rfl, rfl, by unfold pNum; rw [if_neg (by omega)], by omega, by omega⟩))
  ·
    subst hz_12
    subst hu_13
    refine ⟨rfl, ?_⟩
    refine S_w (ws' := [(h0, ob 2 (uF (uF (uF f 1 (iv (sk T n a))) 2 (iv w)) 4 (iv x))), (ht, ob 6 ft), (hb, ar 160 T)]) rfl ?_
    refine S_if_ne (tgt := 17) X dX5_readNumber_7 (by decide) (by decide) (fun _ => ?_) (fun h9 => absurd h9 (by decide))
    have hd0 : 48 ≤ ch T n (sk T n a) ∧ ch T n (sk T n a) ≤ 57 := by assumption
    have hlt : sk T n a < n := ch_lt (T := T) (by omega)
    refine S_iconst X dX5_readNumber_17 ?_
    refine S_istore X dX5_readNumber_18 (nle rfl) ?_
    refine S_aload_n X dX5_readNumber_20 rfl rfl ?_
    refine S_get (v := iv (sk T n a)) X fgX5_15_2 0 rfl rfl dX5_readNumber_21 ?_
    refine S_istore X dX5_readNumber_24 (nle rfl) ?_
    have lp26_1 : ∀ (N : Nat) (a1 : Int) (v : Int) (L : Nat → Option AV), sk T n a ≤ a1 ∧ a1 ≤ n ∧ a1 - sk T n a ≤ dg → (a1 - sk T n a = 0 ∧ v = 0) ∨ (a1 - sk T n a = 1 ∧ 0 ≤ v ∧ v ≤ 9) ∨ (a1 - sk T n a = 2 ∧ 0 ≤ v ∧ v ≤ 99) ∨ (a1 - sk T n a = 3 ∧ 0 ≤ v ∧ v ≤ 999) ∨ (a1 - sk T n a = 4 ∧ 0 ≤ v ∧ v ≤ 9999) → (∀ r, numF T n dg (sk T n a) (6 - (a1 - sk T n a).toNat) a1 v = r → pNum T n dg lo hi a = numE lo hi r) → L 0 = some (rv h0) → L 1 = some (iv dg) → L 2 = some (iv lo) → L 3 = some (iv hi) → L 4 = some (iv v) → L 5 = some (iv (sk T n a)) → 161 - a1 < (N : Int) → S_ p l e (rmD 1 0 0) s m args below meth c (MQ below (QcI D G A Po) args s 0 0 A) D G A 6 0 0 26 L [] [(h0, ob 2 (uF (uF (uF f 1 (iv a1)) 2 (iv w)) 4 (iv x))), (ht, ob 6 ft), (hb, ar 160 T)] := by
      intro N
      induction N with
      | zero =>
        intro a1 v L26 hi1 hv hk hL26_0 hL26_1 hL26_2 hL26_3 hL26_4 hL26_5 hN26
        exfalso; omega
      | succ N ih26 =>
        intro a1 v L26 hi1 hv hk hL26_0 hL26_1 hL26_2 hL26_3 hL26_4 hL26_5 hN26
        refine S_aload_n X dX5_readNumber_26 rfl hL26_0 ?_
        refine S_get (v := iv a1) X fgX5_15_2 0 rfl rfl dX5_readNumber_27 ?_
        refine S_aload_n X dX5_readNumber_30 rfl hL26_0 ?_
        refine S_get X fgX5_9_2 0 rfl hf0 dX5_readNumber_31 ?_
        refine S_get X fgX5_37_6 1 rfl hf2 dX5_readNumber_34 ?_
        refine S_icmp_ge (tgt := 122) X dX5_readNumber_37 (by decide) (by omega) (by omega) (fun c_22 => ?_) (fun c_22 => ?_)
        ·
          refine S_iload X dX5_readNumber_122 hL26_4 ?_
          refine S_iload_n X dX5_readNumber_124 rfl hL26_2 ?_
          refine S_icmp_lt (tgt := 134) X dX5_readNumber_125 (by decide) (by omega) (by omega) (fun c_23 => ?_) (fun c_23 => ?_)
          ·
            refine S_aload_n X dX5_readNumber_134 rfl hL26_0 ?_
            refine S_aload_n X dX5_readNumber_135 rfl hL26_0 ?_
            refine S_get (v := iv a1) X fgX5_15_2 0 rfl rfl dX5_readNumber_136 ?_
            refine S_iconst X dX5_readNumber_139 ?_
            refine S_isub X dX5_readNumber_140 ?_
            refine S_put X fpX5_19_2 0 rfl FT_i dX5_readNumber_141 ?_
            refine S_w (ws' := [(h0, ob 2 (uF (uF (uF f 1 (iv a1)) 2 (iv (a1 - 1))) 4 (iv x))), (ht, ob 6 ft), (hb, ar 160 T)]) (by simp only [List.set]; rw [uF_mv (j := 4) (k := 2) (by decide), uF_same (k := 2)]) ?_
            refine S_iconst X dX5_readNumber_144 ?_
            exact S_iret X (nle rfl) (nle rfl) dX5_readNumber_145 (hPo _ _ (Or.inl ⟨_, _, rfl, rfl, (hk (.inr (a1, v)) (by rw [fuel6 (by omega) (by omega)]; exact numF_end (by omega))).trans (numE_o (by omega)), by omega, by omega⟩))
          ·
            refine S_iload X dX5_readNumber_128 hL26_4 ?_
            refine S_iload_n X dX5_readNumber_130 rfl hL26_3 ?_
            refine S_icmp_le (tgt := 146) X dX5_readNumber_131 (by decide) (by omega) (by omega) (fun c_24 => ?_) (fun c_24 => ?_)
            ·
              refine S_iload X dX5_readNumber_146 hL26_4 ?_
              exact S_iret X (nle rfl) (nle rfl) dX5_readNumber_148 (hPo _ _ (Or.inr ⟨_, _, rfl, rfl, (hk (.inr (a1, v)) (by rw [fuel6 (by omega) (by omega)]; exact numF_end (by omega))).trans (numE_i (by omega))⟩))
            ·
              refine S_aload_n X dX5_readNumber_134 rfl hL26_0 ?_
              refine S_aload_n X dX5_readNumber_135 rfl hL26_0 ?_
              refine S_get (v := iv a1) X fgX5_15_2 0 rfl rfl dX5_readNumber_136 ?_
              refine S_iconst X dX5_readNumber_139 ?_
              refine S_isub X dX5_readNumber_140 ?_
              refine S_put X fpX5_19_2 0 rfl FT_i dX5_readNumber_141 ?_
              refine S_w (ws' := [(h0, ob 2 (uF (uF (uF f 1 (iv a1)) 2 (iv (a1 - 1))) 4 (iv x))), (ht, ob 6 ft), (hb, ar 160 T)]) (by simp only [List.set]; rw [uF_mv (j := 4) (k := 2) (by decide), uF_same (k := 2)]) ?_
              refine S_iconst X dX5_readNumber_144 ?_
              exact S_iret X (nle rfl) (nle rfl) dX5_readNumber_145 (hPo _ _ (Or.inl ⟨_, _, rfl, rfl, (hk (.inr (a1, v)) (by rw [fuel6 (by omega) (by omega)]; exact numF_end (by omega))).trans (numE_o (by omega)), by omega, by omega⟩))
        ·
          refine S_aload_n X dX5_readNumber_40 rfl hL26_0 ?_
          refine S_get (v := iv a1) X fgX5_15_2 0 rfl rfl dX5_readNumber_41 ?_
          refine S_sipush X dX5_readNumber_44 rfl ?_
          refine S_icmp_ge (tgt := 122) X dX5_readNumber_47 (by decide) (by omega) (by decide) (fun c_25 => by exfalso; omega) (fun c_25 => ?_)
          refine S_aload_n X dX5_readNumber_50 rfl hL26_0 ?_
          refine S_get X fgX5_9_2 0 rfl hf0 dX5_readNumber_51 ?_
          refine S_get X fgX5_51_6 1 rfl hf1 dX5_readNumber_54 ?_
          refine S_aload_n X dX5_readNumber_57 rfl hL26_0 ?_
          refine S_get (v := iv a1) X fgX5_15_2 0 rfl rfl dX5_readNumber_58 ?_
          refine S_iald X 2 rfl (by omega) (by omega) (nle rfl) dX5_readNumber_61 ?_
          have hb_9 := hT2 a1 (by omega) (by omega)
          refine S_calli X (kX5_isDigit l (T a1) (by omega)) (is := []) rfl (run_S X lkX5_55 (is := []) (avs := [iv (T a1)]) (rest := []) rfl rfl (nle rfl) ⟨nle rfl, nle rfl⟩ ⟨nle rfl, nle rfl⟩ dX5_readNumber_62 (by decide) rfl) (fun z_28 u_26 hp_27 => ?_)
          rcases hp_27 with ⟨hz_29, hu_30, hd_31⟩ | ⟨hz_32, hu_33, hd_34⟩
          ·
            subst hz_29
            subst hu_30
            refine ⟨rfl, ?_⟩
            refine S_w (ws' := [(h0, ob 2 (uF (uF (uF f 1 (iv a1)) 2 (iv w)) 4 (iv x))), (ht, ob 6 ft), (hb, ar 160 T)]) rfl ?_
            refine S_if_eq (tgt := 122) X dX5_readNumber_65 (by decide) (by decide) (fun _ => ?_) (fun h9 => absurd h9 (by decide))
            refine S_iload X dX5_readNumber_122 hL26_4 ?_
            refine S_iload_n X dX5_readNumber_124 rfl hL26_2 ?_
            refine S_icmp_lt (tgt := 134) X dX5_readNumber_125 (by decide) (by omega) (by omega) (fun c_36 => ?_) (fun c_36 => ?_)
            ·
              refine S_aload_n X dX5_readNumber_134 rfl hL26_0 ?_
              refine S_aload_n X dX5_readNumber_135 rfl hL26_0 ?_
              refine S_get (v := iv a1) X fgX5_15_2 0 rfl rfl dX5_readNumber_136 ?_
              refine S_iconst X dX5_readNumber_139 ?_
              refine S_isub X dX5_readNumber_140 ?_
              refine S_put X fpX5_19_2 0 rfl FT_i dX5_readNumber_141 ?_
              refine S_w (ws' := [(h0, ob 2 (uF (uF (uF f 1 (iv a1)) 2 (iv (a1 - 1))) 4 (iv x))), (ht, ob 6 ft), (hb, ar 160 T)]) (by simp only [List.set]; rw [uF_mv (j := 4) (k := 2) (by decide), uF_same (k := 2)]) ?_
              refine S_iconst X dX5_readNumber_144 ?_
              exact S_iret X (nle rfl) (nle rfl) dX5_readNumber_145 (hPo _ _ (Or.inl ⟨_, _, rfl, rfl, (hk (.inr (a1, v)) (by rw [fuel6 (by omega) (by omega)]; exact numF_end (by omega))).trans (numE_o (by omega)), by omega, by omega⟩))
            ·
              refine S_iload X dX5_readNumber_128 hL26_4 ?_
              refine S_iload_n X dX5_readNumber_130 rfl hL26_3 ?_
              refine S_icmp_le (tgt := 146) X dX5_readNumber_131 (by decide) (by omega) (by omega) (fun c_37 => ?_) (fun c_37 => ?_)
              ·
                refine S_iload X dX5_readNumber_146 hL26_4 ?_
                exact S_iret X (nle rfl) (nle rfl) dX5_readNumber_148 (hPo _ _ (Or.inr ⟨_, _, rfl, rfl, (hk (.inr (a1, v)) (by rw [fuel6 (by omega) (by omega)]; exact numF_end (by omega))).trans (numE_i (by omega))⟩))
              ·
                refine S_aload_n X dX5_readNumber_134 rfl hL26_0 ?_
                refine S_aload_n X dX5_readNumber_135 rfl hL26_0 ?_
                refine S_get (v := iv a1) X fgX5_15_2 0 rfl rfl dX5_readNumber_136 ?_
                refine S_iconst X dX5_readNumber_139 ?_
                refine S_isub X dX5_readNumber_140 ?_
                refine S_put X fpX5_19_2 0 rfl FT_i dX5_readNumber_141 ?_
                refine S_w (ws' := [(h0, ob 2 (uF (uF (uF f 1 (iv a1)) 2 (iv (a1 - 1))) 4 (iv x))), (ht, ob 6 ft), (hb, ar 160 T)]) (by simp only [List.set]; rw [uF_mv (j := 4) (k := 2) (by decide), uF_same (k := 2)]) ?_
                refine S_iconst X dX5_readNumber_144 ?_
                exact S_iret X (nle rfl) (nle rfl) dX5_readNumber_145 (hPo _ _ (Or.inl ⟨_, _, rfl, rfl, (hk (.inr (a1, v)) (by rw [fuel6 (by omega) (by omega)]; exact numF_end (by omega))).trans (numE_o (by omega)), by omega, by omega⟩))
          ·
            subst hz_32
            subst hu_33
            refine ⟨rfl, ?_⟩
            refine S_w (ws' := [(h0, ob 2 (uF (uF (uF f 1 (iv a1)) 2 (iv w)) 4 (iv x))), (ht, ob 6 ft), (hb, ar 160 T)]) rfl ?_
            refine S_if_eq (tgt := 122) X dX5_readNumber_65 (by decide) (by decide) (fun h9 => absurd h9 (by decide)) (fun _ => ?_)
            refine S_aload_n X dX5_readNumber_68 rfl hL26_0 ?_
            refine S_get (v := iv a1) X fgX5_15_2 0 rfl rfl dX5_readNumber_69 ?_
            refine S_iload X dX5_readNumber_72 hL26_5 ?_
            refine S_isub X dX5_readNumber_74 ?_
            refine S_iload_n X dX5_readNumber_75 rfl hL26_1 ?_
            refine S_icmp_lt (tgt := 86) X dX5_readNumber_76 (by decide) (by omega) (by omega) (fun c_39 => ?_) (fun c_39 => ?_)
            ·
              refine S_iload X dX5_readNumber_86 hL26_4 ?_
              refine S_bipush X dX5_readNumber_88 rfl ?_
              refine S_imul X dX5_readNumber_90 ?_
              refine S_aload_n X dX5_readNumber_91 rfl hL26_0 ?_
              refine S_get X fgX5_9_2 0 rfl hf0 dX5_readNumber_92 ?_
              refine S_get X fgX5_51_6 1 rfl hf1 dX5_readNumber_95 ?_
              refine S_aload_n X dX5_readNumber_98 rfl hL26_0 ?_
              refine S_get (v := iv a1) X fgX5_15_2 0 rfl rfl dX5_readNumber_99 ?_
              refine S_iald X 2 rfl (by omega) (by omega) (nle rfl) dX5_readNumber_102 ?_
              have hb_10 := hT2 a1 (by omega) (by omega)
              refine S_iadd X dX5_readNumber_103 ?_
              refine S_bipush X dX5_readNumber_104 rfl ?_
              refine S_isub X dX5_readNumber_106 ?_
              refine S_istore X dX5_readNumber_107 (nle rfl) ?_
              refine S_aload_n X dX5_readNumber_109 rfl hL26_0 ?_
              refine S_dup X dX5_readNumber_110 ?_
              refine S_get (v := iv a1) X fgX5_15_2 0 rfl rfl dX5_readNumber_111 ?_
              refine S_iconst X dX5_readNumber_114 ?_
              refine S_iadd X dX5_readNumber_115 ?_
              refine S_put X fpX5_15_2 0 rfl FT_i dX5_readNumber_116 ?_
              refine S_w (ws' := [(h0, ob 2 (uF (uF (uF f 1 (iv (a1 + 1))) 2 (iv w)) 4 (iv x))), (ht, ob 6 ft), (hb, ar 160 T)]) (by simp only [List.set]; rw [uF_mv (j := 4) (k := 1) (by decide), uF_mv (j := 2) (k := 1) (by decide), uF_same (k := 1)]) ?_
              refine S_goto (tgt := 26) X dX5_readNumber_119 (by decide) ?_
              exact ih26 (a1 + 1) (((v * 10) + (T a1)) - 48) _ (by omega) (by omega) (fun r9 h9 => hk r9 (by rw [show 6 - (a1 - sk T n a).toNat = (6 - (a1 + 1 - sk T n a).toNat) + 1 by omega, numF_dig ⟨by omega, by omega, by omega⟩ (by omega)]; exact h9)) hL26_0 hL26_1 hL26_2 hL26_3 rfl hL26_5 (by omega)
            ·
              refine S_aload_n X dX5_readNumber_79 rfl hL26_0 ?_
              refine S_calli X (kX5_fail_2 l h0 ht hb f ft T n a1 w x hf0 hf1 hf2) (is := [0, 1, 2]) rfl (run_U X lkX5_48_2 0 rfl rfl (is := [0, 1, 2]) (avs := []) (rest := []) rfl rfl (nle rfl) ⟨nle rfl, nle rfl⟩ ⟨nle rfl, nle rfl⟩ dX5_readNumber_80 (by decide) rfl) (fun z_42 u_40 hp_41 => ?_)
              obtain ⟨hz_43, hu_44⟩ := hp_41
              subst hz_43
              subst hu_44
              refine ⟨rfl, ?_⟩
              refine S_w (ws' := [(h0, ob 2 (uF (uF (uF f 1 (iv a1)) 2 (iv a1)) 4 (iv x))), (ht, ob 6 ft), (hb, ar 160 T)]) rfl ?_
              refine S_pop X dX5_readNumber_83 ?_
              refine S_iconst X dX5_readNumber_84 ?_
              exact S_iret X (nle rfl) (nle rfl) dX5_readNumber_85 (hPo _ _ (Or.inl ⟨_, _, rfl, rfl, hk (.inl a1) (by rw [fuel6 (by omega) (by omega)]; exact numF_big ⟨by omega, by omega, by omega⟩ (by omega)), by omega, by omega⟩))
    exact lp26_1 (Int.toNat (161 - (sk T n a)) + 1) (sk T n a) 0 _ (by omega) (by omega) (fun r9 h9 => by rw [Int.sub_self] at h9; unfold pNum; rw [if_pos hd0]; exact congrArg (numE lo hi) h9) rfl rfl rfl rfl rfl rfl (by omega)
set_option maxHeartbeats 4000000 in
set_option maxRecDepth 100000 in
theorem kX5_nextClause_2 (l : Launch) (h0 : Nat) (ht : Nat) (hb : Nat) (f : Nat → AV) (ft : Nat → AV) (T : Int → Int) (n : Int) (a : Int) (w : Int) (x : Int) (hf0 : f 0 = rv ht) (hf1 : ft 0 = rv hb) (hf2 : ft 1 = iv n) (hT : okT T n) (ha : 0 ≤ a ∧ a ≤ n) : AMi l yX5_nextClause cX5_nextClause 1 .boolean 2 0 0 [rv h0] [(h0, ob 2 (uF (uF (uF f 1 (iv a)) 2 (iv w)) 4 (iv x))), (ht, ob 6 ft), (hb, ar 160 T)] (fun z u => (z = 0 ∧ u = [(h0, ob 2 (uF (uF (uF f 1 (iv (sk T n a))) 2 (iv w)) 4 (iv x))), (ht, ob 6 ft), (hb, ar 160 T)] ∧ ch T n (sk T n a) = 0) ∨ (∃ a2 : Int, ∃ fl : Int, z = 0 ∧ u = [(h0, ob 2 (uF (uF (uF f 1 (iv a2)) 2 (iv fl)) 4 (iv x))), (ht, ob 6 ft), (hb, ar 160 T)] ∧ (¬ ch T n (sk T n a) = 0 ∧ ¬ ch T n (sk T n a) = 59) ∧ a2 = sk T n a ∧ fl = sk T n a) ∨ (∃ a2 : Int, z = 1 ∧ u = [(h0, ob 2 (uF (uF (uF f 1 (iv a2)) 2 (iv w)) 4 (iv x))), (ht, ob 6 ft), (hb, ar 160 T)] ∧ ch T n (sk T n a) = 59 ∧ a2 = sk T n a + 1)) := by
  refine AMi.of2 rfl (nle rfl) ?_
  intro D G A p e s m args below meth c Po hPo X
  obtain ⟨hn0, hn1, hT2⟩ := id hT
  have hsk := sk_in (T := T) ha.2
  have hch := ch_in (a := sk T n a) hT (by omega)
  refine S_aload_n X dX5_nextClause_0 rfl rfl ?_
  refine S_calli X (kX5_peek_2 l h0 ht hb f ft T n a w x hf0 hf1 hf2 (by omega) (by omega)) (is := [0, 1, 2]) rfl (run_U X lkX5_40_2 0 rfl rfl (is := [0, 1, 2]) (avs := []) (rest := []) rfl rfl (nle rfl) ⟨nle rfl, nle rfl⟩ ⟨nle rfl, nle rfl⟩ dX5_nextClause_1 (by decide) rfl) (fun z_3 u_1 hp_2 => ?_)
  obtain ⟨hz_4, hu_5⟩ := hp_2
  subst hz_4
  subst hu_5
  refine ⟨rfl, ?_⟩
  refine S_w (ws' := [(h0, ob 2 (uF (uF (uF f 1 (iv (sk T n a))) 2 (iv w)) 4 (iv x))), (ht, ob 6 ft), (hb, ar 160 T)]) rfl ?_
  refine S_if_ne (tgt := 9) X dX5_nextClause_4 (by decide) (by omega) (fun c_6 => ?_) (fun c_6 => ?_)
  ·
    refine S_aload_n X dX5_nextClause_9 rfl rfl ?_
    refine S_bipush X dX5_nextClause_10 rfl ?_
    refine S_calli X (kX5_take_2 l h0 ht hb f ft T n (sk T n a) w x 59 hf0 hf1 hf2 (by omega) (by omega) (by omega)) (is := [0, 1, 2]) rfl (run_U X lkX5_44_2 0 rfl rfl (is := [0, 1, 2]) (avs := [iv 59]) (rest := []) rfl rfl (nle rfl) ⟨nle rfl, nle rfl⟩ ⟨nle rfl, nle rfl⟩ dX5_nextClause_12 (by decide) rfl) (fun z_9 u_7 hp_8 => ?_)
    rcases hp_8 with ⟨hz_10, hu_11, hq_12⟩ | ⟨hz_13, hu_14, hq_15⟩
    ·
      subst hz_10
      subst hu_11
      refine ⟨rfl, ?_⟩
      refine S_w (ws' := [(h0, ob 2 (uF (uF (uF f 1 (iv (sk T n (sk T n a)))) 2 (iv w)) 4 (iv x))), (ht, ob 6 ft), (hb, ar 160 T)]) rfl ?_
      rw [sk_idem] at hq_12
      refine S_if_ne (tgt := 25) X dX5_nextClause_15 (by decide) (by decide) (fun h9 => absurd h9 (by decide)) (fun _ => ?_)
      refine S_aload_n X dX5_nextClause_18 rfl rfl ?_
      refine S_calli X (kX5_fail_2 l h0 ht hb f ft T n (sk T n (sk T n a)) w x hf0 hf1 hf2) (is := [0, 1, 2]) rfl (run_U X lkX5_48_2 0 rfl rfl (is := [0, 1, 2]) (avs := []) (rest := []) rfl rfl (nle rfl) ⟨nle rfl, nle rfl⟩ ⟨nle rfl, nle rfl⟩ dX5_nextClause_19 (by decide) rfl) (fun z_19 u_17 hp_18 => ?_)
      obtain ⟨hz_20, hu_21⟩ := hp_18
      subst hz_20
      subst hu_21
      refine ⟨rfl, ?_⟩
      refine S_w (ws' := [(h0, ob 2 (uF (uF (uF f 1 (iv (sk T n (sk T n a)))) 2 (iv (sk T n (sk T n a)))) 4 (iv x))), (ht, ob 6 ft), (hb, ar 160 T)]) rfl ?_
      refine S_if_eq (tgt := 29) X dX5_nextClause_22 (by decide) (by decide) (fun _ => ?_) (fun h9 => absurd h9 (by decide))
      refine S_iconst X dX5_nextClause_29 ?_
      exact S_zret X (Or.inl rfl) (nle rfl) (nle rfl) dX5_nextClause_30 (hPo _ _ (Or.inr (Or.inl (⟨_, _, by first | rfl | omega, rfl, by omega, by rw [sk_idem], by rw [sk_idem]⟩))))
    ·
      subst hz_13
      subst hu_14
      refine ⟨rfl, ?_⟩
      refine S_w (ws' := [(h0, ob 2 (uF (uF (uF f 1 (iv (sk T n (sk T n a) + 1))) 2 (iv w)) 4 (iv x))), (ht, ob 6 ft), (hb, ar 160 T)]) rfl ?_
      rw [sk_idem] at hq_15
      refine S_if_ne (tgt := 25) X dX5_nextClause_15 (by decide) (by decide) (fun _ => ?_) (fun h9 => absurd h9 (by decide))
      refine S_iconst X dX5_nextClause_25 ?_
      refine S_goto (tgt := 30) X dX5_nextClause_26 (by decide) ?_
      exact S_zret X (Or.inr rfl) (nle rfl) (nle rfl) dX5_nextClause_30 (hPo _ _ (Or.inr (Or.inr (⟨_, by first | rfl | omega, rfl, by omega, by rw [sk_idem]⟩))))
  ·
    refine S_iconst X dX5_nextClause_7 ?_
    exact S_zret X (Or.inl rfl) (nle rfl) (nle rfl) dX5_nextClause_8 (hPo _ _ (Or.inl (⟨by first | rfl | omega, rfl, by omega⟩)))
end pt_11reader
/- 12.town.lean.txt -/
section pt_12town
theorem itemOf_no {c : Int} (h : c ≠ 98 ∧ c ≠ 100 ∧ c ≠ 107 ∧ c ≠ 102 ∧ c ≠ 104) : itemOf c = -1 := by
  unfold itemOf
  rw [if_neg h.1, if_neg h.2.1, if_neg h.2.2.1, if_neg h.2.2.2.1, if_neg h.2.2.2.2]
theorem zAnd1 (x : Int) : zAnd x 1 = 0 ∨ zAnd x 1 = 1 := by
  unfold zAnd
  have h := pk_andE (i32 x) (m := 1) 1 (by decide)
  obtain ⟨j, h1, h2⟩ := h
  have e : i32 1 = 1 := by decide
  rw [e, h2, nI_toInt (by omega)]
  omega
/-- what a reading of a TOWN holds on its way -/
def okTS (s : TS) : Prop := (0 ≤ s.1 ∧ s.1 ≤ 6) ∧ (1 ≤ s.2.1 ∧ s.2.1 ≤ 99) ∧ (s.2.2.1 = 0 ∨ s.2.2.1 = 1) ∧ ∀ j, 0 ≤ j → j < s.1 → okRow (s.2.2.2 j)
theorem colR_pe {R : Int → Int → Int} {q k v : Int} : colR (uZ R q (uZ (R q) k v)) k = uZ (colR R k) q v := by rw [colR_put, uZ_at]
theorem colR_pn {R : Int → Int → Int} {q k v j : Int} (h : ¬ j = k) : colR (uZ R q (uZ (R q) k v)) j = colR R j := by
  rw [colR_put, uZ_ne h]
  exact uZ_self
theorem pIt_m {T : Int → Int} {n : Int} (hn : n ≤ 160) {a mt : Int} (h0 : 0 ≤ a) (ha : a ≤ n) (hm : 1 ≤ mt ∧ mt ≤ 99) : (∀ f, pIt T n false 6 0 a (fun _ => mt) = .inl f → a ≤ f ∧ f ≤ n) ∧ (∀ q, pIt T n false 6 0 a (fun _ => mt) = .inr q → a ≤ q.1 ∧ q.1 ≤ n ∧ 1 ≤ q.2 0 ∧ q.2 0 ≤ 99) := by
  have key : ∀ (k : Nat) (seen a : Int) (r : Int → Int), 0 ≤ a → a ≤ n → (1 ≤ r 0 ∧ r 0 ≤ 99) → (∀ f, pIt T n false k seen a r = .inl f → a ≤ f ∧ f ≤ n) ∧ (∀ q, pIt T n false k seen a r = .inr q → a ≤ q.1 ∧ q.1 ≤ n ∧ 1 ≤ q.2 0 ∧ q.2 0 ≤ 99) := by
    intro k
    induction k with
    | zero =>
      intro seen a r h0 ha hr
      refine ⟨fun f hf => ?_, fun q hq => (by cases hq)⟩
      cases hf
      omega
    | succ k ih =>
      intro seen a r h0 ha hr
      have h1 := sk_in (T := T) ha
      rw [pIt]
      split
      · refine ⟨fun f hf => (by cases hf), fun q hq => ?_⟩
        cases hq
        exact ⟨h1.1, h1.2, hr⟩
      · next hi =>
        split
        · refine ⟨fun f hf => ?_, fun q hq => (by cases hq)⟩
          cases hf
          omega
        · next h5 =>
          have hit : 0 ≤ itemOf (ch T n (sk T n a)) ∧ itemOf (ch T n (sk T n a)) ≤ 4 := (itemOf_in _).resolve_left hi
          have hi0 : itemOf (ch T n (sk T n a)) = 0 := by
            rcases Decidable.em (itemOf (ch T n (sk T n a)) = 0) with e | e
            · exact e
            · exact absurd (Or.inl ⟨rfl, e⟩) h5
          have hlt : sk T n a < n := by
            rcases Int.lt_or_le (sk T n a) n with q | q
            · exact q
            · exfalso
              apply hi
              unfold ch
              rw [if_neg (by omega)]
              rfl
          have hg := gT_in hit
          have h2 := pNum_in (T := T) (n := n) (dg := 2) (lo := gTL (itemOf (ch T n (sk T n a)))) (hi := gTM (itemOf (ch T n (sk T n a)))) (a := sk T n a + 1) (by omega) (by decide) hn (by omega)
          cases hp : pNum T n 2 (gTL (itemOf (ch T n (sk T n a)))) (gTM (itemOf (ch T n (sk T n a)))) (sk T n a + 1) with
          | inl f =>
            refine ⟨fun f' hf => ?_, fun q hq => (by cases hq)⟩
            cases hf
            have := h2.1 f hp
            omega
          | inr q =>
            have h3 := h2.2 q hp
            have hv : 1 ≤ q.2 ∧ q.2 ≤ 99 := by
              have e1 : gTL (itemOf (ch T n (sk T n a))) = 1 := by rw [hi0]; rfl
              have e2 : gTM (itemOf (ch T n (sk T n a))) = 99 := by rw [hi0]; rfl
              rw [e1, e2] at h3
              exact h3.2.2
            have h4 := ih (zOr seen (zShl 1 (itemOf (ch T n (sk T n a))))) q.1 (uZ r (itemOf (ch T n (sk T n a))) q.2) (by omega) h3.2.1 (by rw [hi0, uZ_at]; exact hv)
            exact ⟨fun f hf => by have := h4.1 f hf; omega, fun q' hq => by have := h4.2 q' hq; exact ⟨by omega, this.2⟩⟩
  exact key 6 0 a _ h0 ha hm
theorem pCl_in {T : Int → Int} {n a : Int} {s : TS} (hn : n ≤ 160) (h0 : 0 ≤ a) (ha : a ≤ n) (hs : okTS s) : (∀ f, pCl T n a s = .inl f → 0 ≤ f ∧ f ≤ n) ∧ (∀ q, pCl T n a s = .inr q → a < q.1 ∧ q.1 ≤ n ∧ okTS q.2) := by
  have h1 := sk_in (T := T) ha
  obtain ⟨s1, s2, s3, s4⟩ := hs
  unfold pCl
  split
  · next h2 =>
    have h3 : sk T n a < n := ch_lt (T := T) (by omega)
    have h4 := pIt_in (T := T) (n := n) (ofP := true) hn 6 0 (sk T n a + 1) row0 (by omega) (by omega) okRow_row0
    cases hp : pIt T n true 6 0 (sk T n a + 1) row0 with
    | inl f => exact ⟨fun f' e => by cases e; have := h4.1 f hp; omega, fun q e => by cases e⟩
    | inr q =>
      have h5 := h4.2 q hp
      refine ⟨fun f' e => (by cases e), fun q' e => ?_⟩
      cases e
      refine ⟨by show _ < q.1; omega, h5.2.1, ⟨by show 0 ≤ s.1 + 1 ∧ s.1 + 1 ≤ 6; omega, s2, s3, fun j j0 j1 => ?_⟩⟩
      show okRow (uZ s.2.2.2 s.1 q.2 j)
      have j2 : j < s.1 + 1 := j1
      unfold uZ
      split
      · exact h5.2.2
      · exact s4 j j0 (by omega)
  · split
    · next h2 =>
      have h3 : sk T n a < n := ch_lt (T := T) (by omega)
      have h4 := pIt_m (T := T) hn (a := sk T n a + 1) (by omega) (by omega) s2
      cases hp : pIt T n false 6 0 (sk T n a + 1) (fun _ => s.2.1) with
      | inl f => exact ⟨fun f' e => by cases e; have := h4.1 f hp; omega, fun q e => by cases e⟩
      | inr q =>
        have h5 := h4.2 q hp
        refine ⟨fun f' e => (by cases e), fun q' e => ?_⟩
        cases e
        exact ⟨by show _ < q.1; omega, h5.2.1, s1, h5.2.2, Or.inr rfl, s4⟩
    · exact ⟨fun f' e => by cases e; omega, fun q e => by cases e⟩
/-- a TEXT as a TOWN: its fault, or what it tells -/
noncomputable def tnRes (T : Int → Int) (n : Int) (R : Int → Int → Int) : Int ⊕ TS := match pTnL T n 161 0 (0, 60, 0, R) with
  | .inl f => .inl f
  | .inr q => @ite _ (okTn q.2) (Classical.propDecidable _) (.inr q.2) (.inl n)
theorem tnRes_f {T : Int → Int} {n f : Int} {R : Int → Int → Int} (h : pTnL T n 161 0 (0, 60, 0, R) = .inl f) : tnRes T n R = .inl f := by unfold tnRes; rw [h]
theorem tnRes_n {T : Int → Int} {n : Int} {R : Int → Int → Int} {q : Int × TS} (h : pTnL T n 161 0 (0, 60, 0, R) = .inr q) (h2 : ¬ okTn q.2) : tnRes T n R = .inl n := by unfold tnRes; rw [h]; exact if_neg h2
theorem tnRes_y {T : Int → Int} {n : Int} {R : Int → Int → Int} {q : Int × TS} (h : pTnL T n 161 0 (0, 60, 0, R) = .inr q) (h2 : okTn q.2) : tnRes T n R = .inr q.2 := by unfold tnRes; rw [h]; exact if_pos h2
theorem pTnL_f {T : Int → Int} {n a f : Int} {s : TS} {k : Nat} (h : pCl T n a s = .inl f) : pTnL T n (k + 1) a s = .inl f := by rw [pTnL, h]
theorem pTnL_e {T : Int → Int} {n a : Int} {s : TS} {q : Int × TS} {k : Nat} (h : pCl T n a s = .inr q) (h2 : ch T n (sk T n q.1) = 0) : pTnL T n (k + 1) a s = .inr (sk T n q.1, q.2) := by rw [pTnL, h]; exact if_pos h2
theorem pTnL_g {T : Int → Int} {n a : Int} {s : TS} {q : Int × TS} {k : Nat} (h : pCl T n a s = .inr q) (h2 : ¬ ch T n (sk T n q.1) = 0) (h3 : ch T n (sk T n q.1) = 59) : pTnL T n (k + 1) a s = pTnL T n k (sk T n q.1 + 1) q.2 := by
  rw [pTnL, h]
  exact (if_neg h2).trans (if_pos h3)
theorem pTnL_n {T : Int → Int} {n a : Int} {s : TS} {q : Int × TS} {k : Nat} (h : pCl T n a s = .inr q) (h2 : ¬ ch T n (sk T n q.1) = 0) (h3 : ¬ ch T n (sk T n q.1) = 59) : pTnL T n (k + 1) a s = .inl (sk T n q.1) := by
  rw [pTnL, h]
  exact (if_neg h2).trans (if_neg h3)
theorem fuel161 {i : Int} (h0 : 0 ≤ i) (h : i ≤ 160) : 161 - i.toNat = (161 - (i + 1).toNat) + 1 := by omega
theorem pCl_p {T : Int → Int} {n a b : Int} {s : TS} {r : Int → Int} (h : ch T n (sk T n a) = 112 ∧ s.1 < 6) (h2 : pIt T n true 6 0 (sk T n a + 1) row0 = .inr (b, r)) : pCl T n a s = .inr (b, (s.1 + 1, s.2.1, s.2.2.1, uZ s.2.2.2 s.1 r)) := by unfold pCl; rw [if_pos h, h2]
theorem pCl_pf {T : Int → Int} {n a f : Int} {s : TS} (h : ch T n (sk T n a) = 112 ∧ s.1 < 6) (h2 : pIt T n true 6 0 (sk T n a + 1) row0 = .inl f) : pCl T n a s = .inl f := by unfold pCl; rw [if_pos h, h2]
theorem pCl_m {T : Int → Int} {n a b : Int} {s : TS} {r : Int → Int} (h : ch T n (sk T n a) = 109 ∧ s.2.2.1 = 0) (h2 : pIt T n false 6 0 (sk T n a + 1) (fun _ => s.2.1) = .inr (b, r)) : pCl T n a s = .inr (b, (s.1, r 0, 1, s.2.2.2)) := by unfold pCl; rw [if_neg (by omega), if_pos h, h2]
theorem pCl_mf {T : Int → Int} {n a f : Int} {s : TS} (h : ch T n (sk T n a) = 109 ∧ s.2.2.1 = 0) (h2 : pIt T n false 6 0 (sk T n a + 1) (fun _ => s.2.1) = .inl f) : pCl T n a s = .inl f := by unfold pCl; rw [if_neg (by omega), if_pos h, h2]
theorem pCl_n {T : Int → Int} {n a : Int} {s : TS} (h : ¬ (ch T n (sk T n a) = 112 ∧ s.1 < 6)) (h2 : ¬ (ch T n (sk T n a) = 109 ∧ s.2.2.1 = 0)) : pCl T n a s = .inl (sk T n a) := by unfold pCl; rw [if_neg h, if_neg h2]
set_option maxHeartbeats 4000000 in
set_option maxRecDepth 100000 in
theorem kX9_itemOf (l : Launch) (x : Int) (hx : inR x) : AMi l yX9_itemOf cX9_itemOf 1 .int 0 0 0 [iv x] [] (fun z u => z = itemOf x ∧ u = []) := by
  refine AMi.of2 rfl (nle rfl) ?_
  intro D G A p e s m args below meth c Po hPo X
  refine S_iload_n X dX9_itemOf_0 rfl rfl ?_
  by_cases hs_1 : x = 98
  · refine S_tswIn (j := 0) (tgt := 56) X dX9_itemOf_1 hs_1 rfl (by decide) (by decide) ?_
    refine S_iconst X dX9_itemOf_56 ?_
    exact S_iret X (nle rfl) (nle rfl) dX9_itemOf_57 (hPo _ _ (⟨by rw [hs_1]; rfl, rfl⟩))
  by_cases hs_2 : x = 100
  · refine S_tswIn (j := 2) (tgt := 58) X dX9_itemOf_1 hs_2 rfl (by decide) (by decide) ?_
    refine S_iconst X dX9_itemOf_58 ?_
    exact S_iret X (nle rfl) (nle rfl) dX9_itemOf_59 (hPo _ _ (⟨by rw [hs_2]; rfl, rfl⟩))
  by_cases hs_3 : x = 102
  · refine S_tswIn (j := 4) (tgt := 62) X dX9_itemOf_1 hs_3 rfl (by decide) (by decide) ?_
    refine S_iconst X dX9_itemOf_62 ?_
    exact S_iret X (nle rfl) (nle rfl) dX9_itemOf_63 (hPo _ _ (⟨by rw [hs_3]; rfl, rfl⟩))
  by_cases hs_4 : x = 104
  · refine S_tswIn (j := 6) (tgt := 64) X dX9_itemOf_1 hs_4 rfl (by decide) (by decide) ?_
    refine S_iconst X dX9_itemOf_64 ?_
    exact S_iret X (nle rfl) (nle rfl) dX9_itemOf_65 (hPo _ _ (⟨by rw [hs_4]; rfl, rfl⟩))
  by_cases hs_5 : x = 107
  · refine S_tswIn (j := 9) (tgt := 60) X dX9_itemOf_1 hs_5 rfl (by decide) (by decide) ?_
    refine S_iconst X dX9_itemOf_60 ?_
    exact S_iret X (nle rfl) (nle rfl) dX9_itemOf_61 (hPo _ _ (⟨by rw [hs_5]; rfl, rfl⟩))
  by_cases hs_6 : x = 99
  · refine S_tswIn (j := 1) (tgt := 66) X dX9_itemOf_1 hs_6 rfl (by decide) (by decide) ?_
    refine S_iconst X dX9_itemOf_66 ?_
    exact S_iret X (nle rfl) (nle rfl) dX9_itemOf_67 (hPo _ _ (⟨(itemOf_no (by omega)).symm, rfl⟩))
  by_cases hs_7 : x = 101
  · refine S_tswIn (j := 3) (tgt := 66) X dX9_itemOf_1 hs_7 rfl (by decide) (by decide) ?_
    refine S_iconst X dX9_itemOf_66 ?_
    exact S_iret X (nle rfl) (nle rfl) dX9_itemOf_67 (hPo _ _ (⟨(itemOf_no (by omega)).symm, rfl⟩))
  by_cases hs_8 : x = 103
  · refine S_tswIn (j := 5) (tgt := 66) X dX9_itemOf_1 hs_8 rfl (by decide) (by decide) ?_
    refine S_iconst X dX9_itemOf_66 ?_
    exact S_iret X (nle rfl) (nle rfl) dX9_itemOf_67 (hPo _ _ (⟨(itemOf_no (by omega)).symm, rfl⟩))
  by_cases hs_9 : x = 105
  · refine S_tswIn (j := 7) (tgt := 66) X dX9_itemOf_1 hs_9 rfl (by decide) (by decide) ?_
    refine S_iconst X dX9_itemOf_66 ?_
    exact S_iret X (nle rfl) (nle rfl) dX9_itemOf_67 (hPo _ _ (⟨(itemOf_no (by omega)).symm, rfl⟩))
  by_cases hs_10 : x = 106
  · refine S_tswIn (j := 8) (tgt := 66) X dX9_itemOf_1 hs_10 rfl (by decide) (by decide) ?_
    refine S_iconst X dX9_itemOf_66 ?_
    exact S_iret X (nle rfl) (nle rfl) dX9_itemOf_67 (hPo _ _ (⟨(itemOf_no (by omega)).symm, rfl⟩))
  refine S_tswOut (tgt := 66) X dX9_itemOf_1 (by omega) (by omega) (by decide) ?_
  refine S_iconst X dX9_itemOf_66 ?_
  exact S_iret X (nle rfl) (nle rfl) dX9_itemOf_67 (hPo _ _ (⟨(itemOf_no (by omega)).symm, rfl⟩))
set_option maxHeartbeats 4000000 in
set_option maxRecDepth 100000 in
theorem kX8_clear (l : Launch) (hd : Nat) (fd : Nat → AV) (pl : Int) (mt : Int) : AMv l yX8_clear cX8_clear 1 0 0 0 [rv hd] [(hd, ob 7 (uF (uF fd 0 (iv pl)) 1 (iv mt)))] (fun u => u = [(hd, ob 7 (uF (uF fd 0 (iv 0)) 1 (iv 60)))]) := by
  refine AMv.of2 rfl (nle rfl) ?_
  intro D G A p e s m args below meth c Po hPo hnm X
  refine S_aload_n X dX8_clear_0 rfl rfl ?_
  refine S_iconst X dX8_clear_1 ?_
  refine S_put X fpX8_31_7 0 rfl FT_i dX8_clear_2 ?_
  refine S_w (ws' := [(hd, ob 7 (uF (uF fd 0 (iv 0)) 1 (iv mt)))]) (by simp only [List.set]; rw [uF_mv (j := 1) (k := 0) (by decide), uF_same (k := 0)]) ?_
  refine S_aload_n X dX8_clear_5 rfl rfl ?_
  refine S_bipush X dX8_clear_6 rfl ?_
  refine S_put X fpX8_9_7 0 rfl FT_i dX8_clear_8 ?_
  refine S_w (ws' := [(hd, ob 7 (uF (uF fd 0 (iv 0)) 1 (iv 60)))]) (by simp only [List.set]; rw [uF_same (k := 1)]) ?_
  exact S_vret X (nle rfl) (nle rfl) dX8_clear_11 (hPo _ (rfl))
set_option maxHeartbeats 4000000 in
set_option maxRecDepth 100000 in
theorem kX9_clear (l : Launch) (h0 : Nat) (f : Nat → AV) (a : Int) (w : Int) (x : Int) (hd : Nat) (fd : Nat → AV) (pl : Int) (mt : Int) (hf0 : f 3 = rv hd) : AMv l yX9_clear cX9_clear 1 1 0 0 [rv h0] [(h0, ob 8 (uF (uF (uF f 1 (iv a)) 2 (iv w)) 4 (iv x))), (hd, ob 7 (uF (uF fd 0 (iv pl)) 1 (iv mt)))] (fun u => u = [(h0, ob 8 (uF (uF (uF f 1 (iv a)) 2 (iv w)) 4 (iv 0))), (hd, ob 7 (uF (uF fd 0 (iv 0)) 1 (iv 60)))]) := by
  refine AMv.of2 rfl (nle rfl) ?_
  intro D G A p e s m args below meth c Po hPo hnm X
  refine S_aload_n X dX9_clear_0 rfl rfl ?_
  refine S_get X fgX9_14_8 0 rfl hf0 dX9_clear_1 ?_
  refine S_callv X (kX8_clear l hd fd pl mt ) (is := [1]) rfl (run_V X lkX9_20 1 rfl rfl (is := [1]) (avs := []) (rest := []) rfl rfl (nle rfl) ⟨nle rfl, nle rfl⟩ ⟨nle rfl, nle rfl⟩ dX9_clear_4 (by decide) rfl) (fun u_1 hp_2 => ?_)
  have hu_5 := hp_2
  subst hu_5
  refine ⟨rfl, ?_⟩
  refine S_w (ws' := [(h0, ob 8 (uF (uF (uF f 1 (iv a)) 2 (iv w)) 4 (iv x))), (hd, ob 7 (uF (uF fd 0 (iv 0)) 1 (iv 60)))]) rfl ?_
  refine S_aload_n X dX9_clear_7 rfl rfl ?_
  refine S_iconst X dX9_clear_8 ?_
  refine S_put X fpX9_23_8 0 rfl (FT_b (Or.inl rfl)) dX9_clear_9 ?_
  refine S_w (ws' := [(h0, ob 8 (uF (uF (uF f 1 (iv a)) 2 (iv w)) 4 (iv 0))), (hd, ob 7 (uF (uF fd 0 (iv 0)) 1 (iv 60)))]) (by simp only [List.set]; rw [uF_same (k := 4)]) ?_
  exact S_vret X (nle rfl) (nle rfl) dX9_clear_12 (hPo _ (rfl))
set_option maxHeartbeats 4000000 in
set_option maxRecDepth 100000 in
theorem kX8_addPlayer (l : Launch) (hd : Nat) (fd : Nat → AV) (hB : Nat) (hD : Nat) (hK : Nat) (hF : Nat) (hH : Nat) (pl : Int) (mt : Int) (R : Int → Int → Int) (hf0 : fd 2 = rv hB) (hf1 : fd 3 = rv hD) (hf2 : fd 4 = rv hK) (hf3 : fd 5 = rv hF) (hf4 : fd 6 = rv hH) (hp : 0 ≤ pl ∧ pl ≤ 5) : AMv l yX8_addPlayer cX8_addPlayer 1 0 0 0 [rv hd] [(hd, ob 7 (uF (uF fd 0 (iv pl)) 1 (iv mt))), (hB, ar 6 (colR R 0)), (hD, ar 6 (colR R 1)), (hK, ar 6 (colR R 2)), (hF, ar 6 (colR R 3)), (hH, ar 6 (colR R 4))] (fun u => u = [(hd, ob 7 (uF (uF fd 0 (iv (pl + 1))) 1 (iv mt))), (hB, ar 6 (colR (uZ R pl row0) 0)), (hD, ar 6 (colR (uZ R pl row0) 1)), (hK, ar 6 (colR (uZ R pl row0) 2)), (hF, ar 6 (colR (uZ R pl row0) 3)), (hH, ar 6 (colR (uZ R pl row0) 4))]) := by
  refine AMv.of2 rfl (nle rfl) ?_
  intro D G A p e s m args below meth c Po hPo hnm X
  refine S_aload_n X dX8_addPlayer_0 rfl rfl ?_
  refine S_get (v := iv pl) X fgX8_31_7 0 rfl rfl dX8_addPlayer_1 ?_
  refine S_bipush X dX8_addPlayer_4 rfl ?_
  refine S_icmp_ge (tgt := 70) X dX8_addPlayer_6 (by decide) (by omega) (by decide) (fun c_1 => by exfalso; omega) (fun c_1 => ?_)
  refine S_aload_n X dX8_addPlayer_9 rfl rfl ?_
  refine S_get X fgX8_15_7 0 rfl hf0 dX8_addPlayer_10 ?_
  refine S_aload_n X dX8_addPlayer_13 rfl rfl ?_
  refine S_get (v := iv pl) X fgX8_31_7 0 rfl rfl dX8_addPlayer_14 ?_
  refine S_bipush X dX8_addPlayer_17 rfl ?_
  refine S_iast X 1 rfl (by omega) (by omega) (nle rfl) dX8_addPlayer_19 ?_
  refine S_w (ws' := [(hd, ob 7 (uF (uF fd 0 (iv pl)) 1 (iv mt))), (hB, ar 6 (uZ (colR R 0) pl 60)), (hD, ar 6 (colR R 1)), (hK, ar 6 (colR R 2)), (hF, ar 6 (colR R 3)), (hH, ar 6 (colR R 4))]) rfl ?_
  refine S_aload_n X dX8_addPlayer_20 rfl rfl ?_
  refine S_get X fgX8_19_7 0 rfl hf1 dX8_addPlayer_21 ?_
  refine S_aload_n X dX8_addPlayer_24 rfl rfl ?_
  refine S_get (v := iv pl) X fgX8_31_7 0 rfl rfl dX8_addPlayer_25 ?_
  refine S_iconst X dX8_addPlayer_28 ?_
  refine S_iast X 2 rfl (by omega) (by omega) (nle rfl) dX8_addPlayer_29 ?_
  refine S_w (ws' := [(hd, ob 7 (uF (uF fd 0 (iv pl)) 1 (iv mt))), (hB, ar 6 (uZ (colR R 0) pl 60)), (hD, ar 6 (uZ (colR R 1) pl 0)), (hK, ar 6 (colR R 2)), (hF, ar 6 (colR R 3)), (hH, ar 6 (colR R 4))]) rfl ?_
  refine S_aload_n X dX8_addPlayer_30 rfl rfl ?_
  refine S_get X fgX8_22_7 0 rfl hf2 dX8_addPlayer_31 ?_
  refine S_aload_n X dX8_addPlayer_34 rfl rfl ?_
  refine S_get (v := iv pl) X fgX8_31_7 0 rfl rfl dX8_addPlayer_35 ?_
  refine S_iconst X dX8_addPlayer_38 ?_
  refine S_iast X 3 rfl (by omega) (by omega) (nle rfl) dX8_addPlayer_39 ?_
  refine S_w (ws' := [(hd, ob 7 (uF (uF fd 0 (iv pl)) 1 (iv mt))), (hB, ar 6 (uZ (colR R 0) pl 60)), (hD, ar 6 (uZ (colR R 1) pl 0)), (hK, ar 6 (uZ (colR R 2) pl 0)), (hF, ar 6 (colR R 3)), (hH, ar 6 (colR R 4))]) rfl ?_
  refine S_aload_n X dX8_addPlayer_40 rfl rfl ?_
  refine S_get X fgX8_25_7 0 rfl hf3 dX8_addPlayer_41 ?_
  refine S_aload_n X dX8_addPlayer_44 rfl rfl ?_
  refine S_get (v := iv pl) X fgX8_31_7 0 rfl rfl dX8_addPlayer_45 ?_
  refine S_iconst X dX8_addPlayer_48 ?_
  refine S_iast X 4 rfl (by omega) (by omega) (nle rfl) dX8_addPlayer_49 ?_
  refine S_w (ws' := [(hd, ob 7 (uF (uF fd 0 (iv pl)) 1 (iv mt))), (hB, ar 6 (uZ (colR R 0) pl 60)), (hD, ar 6 (uZ (colR R 1) pl 0)), (hK, ar 6 (uZ (colR R 2) pl 0)), (hF, ar 6 (uZ (colR R 3) pl (-1))), (hH, ar 6 (colR R 4))]) rfl ?_
  refine S_aload_n X dX8_addPlayer_50 rfl rfl ?_
  refine S_get X fgX8_28_7 0 rfl hf4 dX8_addPlayer_51 ?_
  refine S_aload_n X dX8_addPlayer_54 rfl rfl ?_
  refine S_get (v := iv pl) X fgX8_31_7 0 rfl rfl dX8_addPlayer_55 ?_
  refine S_iconst X dX8_addPlayer_58 ?_
  refine S_iast X 5 rfl (by omega) (by omega) (nle rfl) dX8_addPlayer_59 ?_
  refine S_w (ws' := [(hd, ob 7 (uF (uF fd 0 (iv pl)) 1 (iv mt))), (hB, ar 6 (uZ (colR R 0) pl 60)), (hD, ar 6 (uZ (colR R 1) pl 0)), (hK, ar 6 (uZ (colR R 2) pl 0)), (hF, ar 6 (uZ (colR R 3) pl (-1))), (hH, ar 6 (uZ (colR R 4) pl 5))]) rfl ?_
  refine S_aload_n X dX8_addPlayer_60 rfl rfl ?_
  refine S_dup X dX8_addPlayer_61 ?_
  refine S_get (v := iv pl) X fgX8_31_7 0 rfl rfl dX8_addPlayer_62 ?_
  refine S_iconst X dX8_addPlayer_65 ?_
  refine S_iadd X dX8_addPlayer_66 ?_
  refine S_put X fpX8_31_7 0 rfl FT_i dX8_addPlayer_67 ?_
  refine S_w (ws' := [(hd, ob 7 (uF (uF fd 0 (iv (pl + 1))) 1 (iv mt))), (hB, ar 6 (uZ (colR R 0) pl 60)), (hD, ar 6 (uZ (colR R 1) pl 0)), (hK, ar 6 (uZ (colR R 2) pl 0)), (hF, ar 6 (uZ (colR R 3) pl (-1))), (hH, ar 6 (uZ (colR R 4) pl 5))]) (by simp only [List.set]; rw [uF_mv (j := 1) (k := 0) (by decide), uF_same (k := 0)]) ?_
  exact S_vret X (nle rfl) (nle rfl) dX8_addPlayer_70 (hPo _ (by simp only [colR_put]; rfl))
set_option maxHeartbeats 4000000 in
set_option maxRecDepth 100000 in
theorem kX8_put (l : Launch) (hd : Nat) (fd : Nat → AV) (hB : Nat) (hD : Nat) (hK : Nat) (hF : Nat) (hH : Nat) (pl : Int) (mt : Int) (R : Int → Int → Int) (q : Int) (it : Int) (v : Int) (hf0 : fd 2 = rv hB) (hf1 : fd 3 = rv hD) (hf2 : fd 4 = rv hK) (hf3 : fd 5 = rv hF) (hf4 : fd 6 = rv hH) (hp : 0 ≤ q ∧ q ≤ 5) (hi : 0 ≤ it ∧ it ≤ 4) : AMv l yX8_put cX8_put 4 0 0 0 [rv hd, iv q, iv it, iv v] [(hd, ob 7 (uF (uF fd 0 (iv pl)) 1 (iv mt))), (hB, ar 6 (colR R 0)), (hD, ar 6 (colR R 1)), (hK, ar 6 (colR R 2)), (hF, ar 6 (colR R 3)), (hH, ar 6 (colR R 4))] (fun u => u = [(hd, ob 7 (uF (uF fd 0 (iv pl)) 1 (iv mt))), (hB, ar 6 (colR (uZ R q (uZ (R q) it v)) 0)), (hD, ar 6 (colR (uZ R q (uZ (R q) it v)) 1)), (hK, ar 6 (colR (uZ R q (uZ (R q) it v)) 2)), (hF, ar 6 (colR (uZ R q (uZ (R q) it v)) 3)), (hH, ar 6 (colR (uZ R q (uZ (R q) it v)) 4))]) := by
  refine AMv.of2 rfl (nle rfl) ?_
  intro D G A p e s m args below meth c Po hPo hnm X
  refine S_iload_n X dX8_put_0 rfl rfl ?_
  by_cases hs_1 : it = 0
  · refine S_tswIn (j := 0) (tgt := 32) X dX8_put_1 hs_1 rfl (by decide) (by decide) ?_
    refine S_aload_n X dX8_put_32 rfl rfl ?_
    refine S_get X fgX8_15_7 0 rfl hf0 dX8_put_33 ?_
    refine S_iload_n X dX8_put_36 rfl rfl ?_
    refine S_iload_n X dX8_put_37 rfl rfl ?_
    refine S_iast X 1 rfl (by omega) (by omega) (nle rfl) dX8_put_38 ?_
    refine S_w (ws' := [(hd, ob 7 (uF (uF fd 0 (iv pl)) 1 (iv mt))), (hB, ar 6 (uZ (colR R 0) q v)), (hD, ar 6 (colR R 1)), (hK, ar 6 (colR R 2)), (hF, ar 6 (colR R 3)), (hH, ar 6 (colR R 4))]) rfl ?_
    refine S_goto (tgt := 79) X dX8_put_39 (by decide) ?_
    exact S_vret X (nle rfl) (nle rfl) dX8_put_79 (hPo _ (by subst hs_1; simp only [colR_pe]; simp [colR_pn]))
  by_cases hs_2 : it = 1
  · refine S_tswIn (j := 1) (tgt := 42) X dX8_put_1 hs_2 rfl (by decide) (by decide) ?_
    refine S_aload_n X dX8_put_42 rfl rfl ?_
    refine S_get X fgX8_19_7 0 rfl hf1 dX8_put_43 ?_
    refine S_iload_n X dX8_put_46 rfl rfl ?_
    refine S_iload_n X dX8_put_47 rfl rfl ?_
    refine S_iast X 2 rfl (by omega) (by omega) (nle rfl) dX8_put_48 ?_
    refine S_w (ws' := [(hd, ob 7 (uF (uF fd 0 (iv pl)) 1 (iv mt))), (hB, ar 6 (colR R 0)), (hD, ar 6 (uZ (colR R 1) q v)), (hK, ar 6 (colR R 2)), (hF, ar 6 (colR R 3)), (hH, ar 6 (colR R 4))]) rfl ?_
    refine S_goto (tgt := 79) X dX8_put_49 (by decide) ?_
    exact S_vret X (nle rfl) (nle rfl) dX8_put_79 (hPo _ (by subst hs_2; simp only [colR_pe]; simp [colR_pn]))
  by_cases hs_3 : it = 2
  · refine S_tswIn (j := 2) (tgt := 52) X dX8_put_1 hs_3 rfl (by decide) (by decide) ?_
    refine S_aload_n X dX8_put_52 rfl rfl ?_
    refine S_get X fgX8_22_7 0 rfl hf2 dX8_put_53 ?_
    refine S_iload_n X dX8_put_56 rfl rfl ?_
    refine S_iload_n X dX8_put_57 rfl rfl ?_
    refine S_iast X 3 rfl (by omega) (by omega) (nle rfl) dX8_put_58 ?_
    refine S_w (ws' := [(hd, ob 7 (uF (uF fd 0 (iv pl)) 1 (iv mt))), (hB, ar 6 (colR R 0)), (hD, ar 6 (colR R 1)), (hK, ar 6 (uZ (colR R 2) q v)), (hF, ar 6 (colR R 3)), (hH, ar 6 (colR R 4))]) rfl ?_
    refine S_goto (tgt := 79) X dX8_put_59 (by decide) ?_
    exact S_vret X (nle rfl) (nle rfl) dX8_put_79 (hPo _ (by subst hs_3; simp only [colR_pe]; simp [colR_pn]))
  by_cases hs_4 : it = 3
  · refine S_tswIn (j := 3) (tgt := 62) X dX8_put_1 hs_4 rfl (by decide) (by decide) ?_
    refine S_aload_n X dX8_put_62 rfl rfl ?_
    refine S_get X fgX8_25_7 0 rfl hf3 dX8_put_63 ?_
    refine S_iload_n X dX8_put_66 rfl rfl ?_
    refine S_iload_n X dX8_put_67 rfl rfl ?_
    refine S_iast X 4 rfl (by omega) (by omega) (nle rfl) dX8_put_68 ?_
    refine S_w (ws' := [(hd, ob 7 (uF (uF fd 0 (iv pl)) 1 (iv mt))), (hB, ar 6 (colR R 0)), (hD, ar 6 (colR R 1)), (hK, ar 6 (colR R 2)), (hF, ar 6 (uZ (colR R 3) q v)), (hH, ar 6 (colR R 4))]) rfl ?_
    refine S_goto (tgt := 79) X dX8_put_69 (by decide) ?_
    exact S_vret X (nle rfl) (nle rfl) dX8_put_79 (hPo _ (by subst hs_4; simp only [colR_pe]; simp [colR_pn]))
  refine S_tswOut (tgt := 72) X dX8_put_1 (by omega) (by omega) (by decide) ?_
  refine S_aload_n X dX8_put_72 rfl rfl ?_
  refine S_get X fgX8_28_7 0 rfl hf4 dX8_put_73 ?_
  refine S_iload_n X dX8_put_76 rfl rfl ?_
  refine S_iload_n X dX8_put_77 rfl rfl ?_
  refine S_iast X 5 rfl (by omega) (by omega) (nle rfl) dX8_put_78 ?_
  refine S_w (ws' := [(hd, ob 7 (uF (uF fd 0 (iv pl)) 1 (iv mt))), (hB, ar 6 (colR R 0)), (hD, ar 6 (colR R 1)), (hK, ar 6 (colR R 2)), (hF, ar 6 (colR R 3)), (hH, ar 6 (uZ (colR R 4) q v))]) rfl ?_
  exact S_vret X (nle rfl) (nle rfl) dX8_put_79 (hPo _ (by (obtain rfl : it = 4 := (by omega)); simp only [colR_pe]; simp [colR_pn]))
set_option maxHeartbeats 4000000 in
set_option maxRecDepth 100000 in
theorem kX9_keep_P (l : Launch) (h0 : Nat) (ht : Nat) (hb : Nat) (f : Nat → AV) (ft : Nat → AV) (T : Int → Int) (n : Int) (a : Int) (w : Int) (x : Int) (hd : Nat) (fd : Nat → AV) (hB : Nat) (hD : Nat) (hK : Nat) (hF : Nat) (hH : Nat) (pl : Int) (mt : Int) (R : Int → Int → Int) (it : Int) (v : Int) (q : Int) (hf0 : f 0 = rv ht) (hf1 : ft 0 = rv hb) (hf2 : ft 1 = iv n) (hf3 : f 3 = rv hd) (hf4 : fd 2 = rv hB) (hf5 : fd 3 = rv hD) (hf6 : fd 4 = rv hK) (hf7 : fd 5 = rv hF) (hf8 : fd 6 = rv hH) (hq : q = pl - 1 ∧ 0 ≤ q ∧ q ≤ 5) (hi : 0 ≤ it ∧ it ≤ 4) : AMv l yX9_keep cX9_keep 5 1 0 0 [rv h0, iv 1, iv it, iv v] [(h0, ob 8 (uF (uF (uF f 1 (iv a)) 2 (iv w)) 4 (iv x))), (ht, ob 6 ft), (hb, ar 160 T), (hd, ob 7 (uF (uF fd 0 (iv pl)) 1 (iv mt))), (hB, ar 6 (colR R 0)), (hD, ar 6 (colR R 1)), (hK, ar 6 (colR R 2)), (hF, ar 6 (colR R 3)), (hH, ar 6 (colR R 4))] (fun u => u = [(h0, ob 8 (uF (uF (uF f 1 (iv a)) 2 (iv w)) 4 (iv x))), (ht, ob 6 ft), (hb, ar 160 T), (hd, ob 7 (uF (uF fd 0 (iv pl)) 1 (iv mt))), (hB, ar 6 (colR (uZ R q (uZ (R q) it v)) 0)), (hD, ar 6 (colR (uZ R q (uZ (R q) it v)) 1)), (hK, ar 6 (colR (uZ R q (uZ (R q) it v)) 2)), (hF, ar 6 (colR (uZ R q (uZ (R q) it v)) 3)), (hH, ar 6 (colR (uZ R q (uZ (R q) it v)) 4))]) := by
  refine AMv.of2 rfl (nle rfl) ?_
  intro D G A p e s m args below meth c Po hPo hnm X
  refine S_aload_n X dX9_keep_0 rfl rfl ?_
  refine S_get X fgX9_14_8 0 rfl hf3 dX9_keep_1 ?_
  refine S_get (v := iv pl) X fgX9_31_7 3 rfl rfl dX9_keep_4 ?_
  refine S_iconst X dX9_keep_7 ?_
  refine S_isub X dX9_keep_8 ?_
  refine S_istore X dX9_keep_9 (nle rfl) ?_
  refine S_iload_n X dX9_keep_11 rfl rfl ?_
  refine S_if_ne (tgt := 26) X dX9_keep_12 (by decide) (by decide) (fun _ => ?_) (fun h9 => absurd h9 (by decide))
  refine S_iload X dX9_keep_26 rfl ?_
  refine S_if_lt (tgt := 42) X dX9_keep_28 (by decide) (by omega) (fun c_2 => by exfalso; omega) (fun c_2 => ?_)
  refine S_aload_n X dX9_keep_31 rfl rfl ?_
  refine S_get X fgX9_14_8 0 rfl hf3 dX9_keep_32 ?_
  refine S_iload X dX9_keep_35 rfl ?_
  refine S_iload_n X dX9_keep_37 rfl rfl ?_
  refine S_iload_n X dX9_keep_38 rfl rfl ?_
  refine S_callv X (kX8_put l hd fd hB hD hK hF hH pl mt R (pl - 1) it v hf4 hf5 hf6 hf7 hf8 (by omega) (by omega)) (is := [3, 4, 5, 6, 7, 8]) rfl (run_V X lkX9_71 3 rfl rfl (is := [3, 4, 5, 6, 7, 8]) (avs := [iv (pl - 1), iv it, iv v]) (rest := []) rfl rfl (nle rfl) ⟨nle rfl, nle rfl⟩ ⟨nle rfl, nle rfl⟩ dX9_keep_39 (by decide) rfl) (fun u_3 hp_4 => ?_)
  have hu_7 := hp_4
  subst hu_7
  refine ⟨rfl, ?_⟩
  refine S_w (ws' := [(h0, ob 8 (uF (uF (uF f 1 (iv a)) 2 (iv w)) 4 (iv x))), (ht, ob 6 ft), (hb, ar 160 T), (hd, ob 7 (uF (uF fd 0 (iv pl)) 1 (iv mt))), (hB, ar 6 (colR (uZ R (pl - 1) (uZ (R (pl - 1)) it v)) 0)), (hD, ar 6 (colR (uZ R (pl - 1) (uZ (R (pl - 1)) it v)) 1)), (hK, ar 6 (colR (uZ R (pl - 1) (uZ (R (pl - 1)) it v)) 2)), (hF, ar 6 (colR (uZ R (pl - 1) (uZ (R (pl - 1)) it v)) 3)), (hH, ar 6 (colR (uZ R (pl - 1) (uZ (R (pl - 1)) it v)) 4))]) rfl ?_
  exact S_vret X (nle rfl) (nle rfl) dX9_keep_42 (hPo _ (by rw [hq.1]))
set_option maxHeartbeats 4000000 in
set_option maxRecDepth 100000 in
theorem kX9_keep_M (l : Launch) (h0 : Nat) (ht : Nat) (hb : Nat) (f : Nat → AV) (ft : Nat → AV) (T : Int → Int) (n : Int) (a : Int) (w : Int) (x : Int) (hd : Nat) (fd : Nat → AV) (hB : Nat) (hD : Nat) (hK : Nat) (hF : Nat) (hH : Nat) (pl : Int) (mt : Int) (R : Int → Int → Int) (it : Int) (v : Int) (hf0 : f 0 = rv ht) (hf1 : ft 0 = rv hb) (hf2 : ft 1 = iv n) (hf3 : f 3 = rv hd) (hf4 : fd 2 = rv hB) (hf5 : fd 3 = rv hD) (hf6 : fd 4 = rv hK) (hf7 : fd 5 = rv hF) (hf8 : fd 6 = rv hH) : AMv l yX9_keep cX9_keep 5 1 0 0 [rv h0, iv 0, iv it, iv v] [(h0, ob 8 (uF (uF (uF f 1 (iv a)) 2 (iv w)) 4 (iv x))), (ht, ob 6 ft), (hb, ar 160 T), (hd, ob 7 (uF (uF fd 0 (iv pl)) 1 (iv mt))), (hB, ar 6 (colR R 0)), (hD, ar 6 (colR R 1)), (hK, ar 6 (colR R 2)), (hF, ar 6 (colR R 3)), (hH, ar 6 (colR R 4))] (fun u => u = [(h0, ob 8 (uF (uF (uF f 1 (iv a)) 2 (iv w)) 4 (iv x))), (ht, ob 6 ft), (hb, ar 160 T), (hd, ob 7 (uF (uF fd 0 (iv pl)) 1 (iv v))), (hB, ar 6 (colR R 0)), (hD, ar 6 (colR R 1)), (hK, ar 6 (colR R 2)), (hF, ar 6 (colR R 3)), (hH, ar 6 (colR R 4))]) := by
  refine AMv.of2 rfl (nle rfl) ?_
  intro D G A p e s m args below meth c Po hPo hnm X
  refine S_aload_n X dX9_keep_0 rfl rfl ?_
  refine S_get X fgX9_14_8 0 rfl hf3 dX9_keep_1 ?_
  refine S_get (v := iv pl) X fgX9_31_7 3 rfl rfl dX9_keep_4 ?_
  refine S_iconst X dX9_keep_7 ?_
  refine S_isub X dX9_keep_8 ?_
  refine S_istore X dX9_keep_9 (nle rfl) ?_
  refine S_iload_n X dX9_keep_11 rfl rfl ?_
  refine S_if_ne (tgt := 26) X dX9_keep_12 (by decide) (by decide) (fun h9 => absurd h9 (by decide)) (fun _ => ?_)
  refine S_aload_n X dX9_keep_15 rfl rfl ?_
  refine S_get X fgX9_14_8 0 rfl hf3 dX9_keep_16 ?_
  refine S_iload_n X dX9_keep_19 rfl rfl ?_
  refine S_put X fpX9_68_7 3 rfl FT_i dX9_keep_20 ?_
  refine S_w (ws' := [(h0, ob 8 (uF (uF (uF f 1 (iv a)) 2 (iv w)) 4 (iv x))), (ht, ob 6 ft), (hb, ar 160 T), (hd, ob 7 (uF (uF fd 0 (iv pl)) 1 (iv v))), (hB, ar 6 (colR R 0)), (hD, ar 6 (colR R 1)), (hK, ar 6 (colR R 2)), (hF, ar 6 (colR R 3)), (hH, ar 6 (colR R 4))]) (by simp only [List.set]; rw [uF_same (k := 1)]) ?_
  refine S_goto (tgt := 42) X dX9_keep_23 (by decide) ?_
  exact S_vret X (nle rfl) (nle rfl) dX9_keep_42 (hPo _ (rfl))
set_option maxHeartbeats 4000000 in
set_option maxRecDepth 100000 in
theorem kX9_readItems_P (l : Launch) (h0 : Nat) (ht : Nat) (hb : Nat) (f : Nat → AV) (ft : Nat → AV) (T : Int → Int) (n : Int) (a : Int) (w : Int) (x : Int) (hd : Nat) (fd : Nat → AV) (hB : Nat) (hD : Nat) (hK : Nat) (hF : Nat) (hH : Nat) (pl : Int) (mt : Int) (R : Int → Int → Int) (q : Int) (hf0 : f 0 = rv ht) (hf1 : ft 0 = rv hb) (hf2 : ft 1 = iv n) (hf3 : f 3 = rv hd) (hf4 : fd 2 = rv hB) (hf5 : fd 3 = rv hD) (hf6 : fd 4 = rv hK) (hf7 : fd 5 = rv hF) (hf8 : fd 6 = rv hH) (hT : okT T n) (ha : 0 ≤ a ∧ a ≤ n) (hq : q = pl - 1 ∧ 0 ≤ q ∧ q ≤ 5) : AMi l yX9_readItems cX9_readItems 6 .boolean 3 0 0 [rv h0, iv 1] [(h0, ob 8 (uF (uF (uF f 1 (iv a)) 2 (iv w)) 4 (iv x))), (ht, ob 6 ft), (hb, ar 160 T), (hd, ob 7 (uF (uF fd 0 (iv pl)) 1 (iv mt))), (hB, ar 6 (colR (uZ R q row0) 0)), (hD, ar 6 (colR (uZ R q row0) 1)), (hK, ar 6 (colR (uZ R q row0) 2)), (hF, ar 6 (colR (uZ R q row0) 3)), (hH, ar 6 (colR (uZ R q row0) 4))] (fun z u => (∃ a2 : Int, ∃ fl : Int, ∃ R2 : Int → Int → Int, z = 0 ∧ u = [(h0, ob 8 (uF (uF (uF f 1 (iv a2)) 2 (iv fl)) 4 (iv x))), (ht, ob 6 ft), (hb, ar 160 T), (hd, ob 7 (uF (uF fd 0 (iv pl)) 1 (iv mt))), (hB, ar 6 (colR R2 0)), (hD, ar 6 (colR R2 1)), (hK, ar 6 (colR R2 2)), (hF, ar 6 (colR R2 3)), (hH, ar 6 (colR R2 4))] ∧ pIt T n true 6 0 a row0 = .inl fl ∧ (0 ≤ a2 ∧ a2 ≤ n)) ∨ (∃ a2 : Int, ∃ r2 : Int → Int, z = 1 ∧ u = [(h0, ob 8 (uF (uF (uF f 1 (iv a2)) 2 (iv w)) 4 (iv x))), (ht, ob 6 ft), (hb, ar 160 T), (hd, ob 7 (uF (uF fd 0 (iv pl)) 1 (iv mt))), (hB, ar 6 (colR (uZ R q r2) 0)), (hD, ar 6 (colR (uZ R q r2) 1)), (hK, ar 6 (colR (uZ R q r2) 2)), (hF, ar 6 (colR (uZ R q r2) 3)), (hH, ar 6 (colR (uZ R q r2) 4))] ∧ pIt T n true 6 0 a row0 = .inr (a2, r2))) := by
  refine AMi.of2 rfl (nle rfl) ?_
  intro D G A p e s m args below meth c Po hPo X
  obtain ⟨hn0, hn1, hT2⟩ := id hT
  refine S_iconst X dX9_readItems_0 ?_
  refine S_istore_n X dX9_readItems_1 rfl (nle rfl) ?_
  refine S_iconst X dX9_readItems_2 ?_
  refine S_istore_n X dX9_readItems_3 rfl (nle rfl) ?_
  have lp4_0 : ∀ (N : Nat) (i : Int) (a1 : Int) (seen : Int) (r : Int → Int) (L : Nat → Option AV), 0 ≤ i ∧ i ≤ 6 ∧ 0 ≤ a1 ∧ a1 ≤ n → (∀ z9, pIt T n true (6 - i.toNat) seen a1 r = z9 → pIt T n true 6 0 a row0 = z9) → L 0 = some (rv h0) → L 1 = some (iv 1) → L 2 = some (iv seen) → L 3 = some (iv i) → 7 - i < (N : Int) → S_ p l e (rmD 3 0 0) s m args below meth c (MQ below (QcI D G A Po) args s 0 0 A) D G A 6 0 0 4 L [] [(h0, ob 8 (uF (uF (uF f 1 (iv a1)) 2 (iv w)) 4 (iv x))), (ht, ob 6 ft), (hb, ar 160 T), (hd, ob 7 (uF (uF fd 0 (iv pl)) 1 (iv mt))), (hB, ar 6 (colR (uZ R q r) 0)), (hD, ar 6 (colR (uZ R q r) 1)), (hK, ar 6 (colR (uZ R q r) 2)), (hF, ar 6 (colR (uZ R q r) 3)), (hH, ar 6 (colR (uZ R q r) 4))] := by
    intro N
    induction N with
    | zero =>
      intro i a1 seen r L4 hi hk hL4_0 hL4_1 hL4_2 hL4_3 hN4
      exfalso; omega
    | succ N ih4 =>
      intro i a1 seen r L4 hi hk hL4_0 hL4_1 hL4_2 hL4_3 hN4
      refine S_iload_n X dX9_readItems_4 rfl hL4_3 ?_
      refine S_iconst X dX9_readItems_5 ?_
      refine S_icmp_gt (tgt := 108) X dX9_readItems_6 (by decide) (by omega) (by decide) (fun c_1 => ?_) (fun c_1 => ?_)
      ·
        refine S_aload_n X dX9_readItems_108 rfl hL4_0 ?_
        refine S_calli X (kX5_fail_8 l h0 ht hb f ft T n a1 w x hf0 hf1 hf2) (is := [0, 1, 2]) rfl (run_U X lkX9_45_8 0 rfl rfl (is := [0, 1, 2]) (avs := []) (rest := []) rfl rfl (nle rfl) ⟨nle rfl, nle rfl⟩ ⟨nle rfl, nle rfl⟩ dX9_readItems_109 (by decide) rfl) (fun z_4 u_2 hp_3 => ?_)
        obtain ⟨hz_5, hu_6⟩ := hp_3
        subst hz_5
        subst hu_6
        refine ⟨rfl, ?_⟩
        refine S_w (ws' := [(h0, ob 8 (uF (uF (uF f 1 (iv a1)) 2 (iv a1)) 4 (iv x))), (ht, ob 6 ft), (hb, ar 160 T), (hd, ob 7 (uF (uF fd 0 (iv pl)) 1 (iv mt))), (hB, ar 6 (colR (uZ R q r) 0)), (hD, ar 6 (colR (uZ R q r) 1)), (hK, ar 6 (colR (uZ R q r) 2)), (hF, ar 6 (colR (uZ R q r) 3)), (hH, ar 6 (colR (uZ R q r) 4))]) rfl ?_
        exact S_zret X (Or.inl rfl) (nle rfl) (nle rfl) dX9_readItems_112 (hPo _ _ (Or.inl ⟨_, _, _, rfl, rfl, hk _ (by rw [show 6 - i.toNat = 0 by omega]; rfl), by omega, by omega⟩))
      ·
        refine S_aload_n X dX9_readItems_9 rfl hL4_0 ?_
        refine S_calli X (kX5_peek_8 l h0 ht hb f ft T n a1 w x hf0 hf1 hf2 (by omega) (by omega)) (is := [0, 1, 2]) rfl (run_U X lkX9_27_8 0 rfl rfl (is := [0, 1, 2]) (avs := []) (rest := []) rfl rfl (nle rfl) ⟨nle rfl, nle rfl⟩ ⟨nle rfl, nle rfl⟩ dX9_readItems_10 (by decide) rfl) (fun z_9 u_7 hp_8 => ?_)
        obtain ⟨hz_10, hu_11⟩ := hp_8
        subst hz_10
        subst hu_11
        refine ⟨rfl, ?_⟩
        refine S_w (ws' := [(h0, ob 8 (uF (uF (uF f 1 (iv (sk T n a1))) 2 (iv w)) 4 (iv x))), (ht, ob 6 ft), (hb, ar 160 T), (hd, ob 7 (uF (uF fd 0 (iv pl)) 1 (iv mt))), (hB, ar 6 (colR (uZ R q r) 0)), (hD, ar 6 (colR (uZ R q r) 1)), (hK, ar 6 (colR (uZ R q r) 2)), (hF, ar 6 (colR (uZ R q r) 3)), (hH, ar 6 (colR (uZ R q r) 4))]) rfl ?_
        have hsk := sk_in (T := T) (n := n) (a := a1) (by omega)
        have hch := ch_in (a := sk T n a1) hT (by omega)
        have hit := itemOf_in (ch T n (sk T n a1))
        refine S_calli X (kX9_itemOf l (ch T n (sk T n a1)) (by omega)) (is := []) rfl (run_S X lkX9_49 (is := []) (avs := [iv (ch T n (sk T n a1))]) (rest := []) rfl rfl (nle rfl) ⟨nle rfl, nle rfl⟩ ⟨nle rfl, nle rfl⟩ dX9_readItems_13 (by decide) rfl) (fun z_14 u_12 hp_13 => ?_)
        obtain ⟨hz_15, hu_16⟩ := hp_13
        subst hz_15
        subst hu_16
        refine ⟨rfl, ?_⟩
        refine S_w (ws' := [(h0, ob 8 (uF (uF (uF f 1 (iv (sk T n a1))) 2 (iv w)) 4 (iv x))), (ht, ob 6 ft), (hb, ar 160 T), (hd, ob 7 (uF (uF fd 0 (iv pl)) 1 (iv mt))), (hB, ar 6 (colR (uZ R q r) 0)), (hD, ar 6 (colR (uZ R q r) 1)), (hK, ar 6 (colR (uZ R q r) 2)), (hF, ar 6 (colR (uZ R q r) 3)), (hH, ar 6 (colR (uZ R q r) 4))]) rfl ?_
        refine S_istore X dX9_readItems_16 (nle rfl) ?_
        refine S_iload X dX9_readItems_18 rfl ?_
        refine S_iconst X dX9_readItems_20 ?_
        refine S_icmp_ne (tgt := 26) X dX9_readItems_21 (by decide) (by omega) (by decide) (fun c_17 => ?_) (fun c_17 => ?_)
        ·
          have hne : itemOf (ch T n (sk T n a1)) ≠ -1 := by assumption
          have hi5 : 0 ≤ itemOf (ch T n (sk T n a1)) ∧ itemOf (ch T n (sk T n a1)) ≤ 4 := hit.resolve_left hne
          have hg := gT_in hi5
          have hlt : sk T n a1 < n := (Int.lt_or_le (sk T n a1) n).elim id (fun q9 => absurd (by unfold ch; rw [if_neg (by omega)]; rfl) hne)
          refine S_iload_n X dX9_readItems_26 rfl hL4_1 ?_
          refine S_if_ne (tgt := 35) X dX9_readItems_27 (by decide) (by decide) (fun _ => ?_) (fun h9 => absurd h9 (by decide))
          refine S_iload_n X dX9_readItems_35 rfl hL4_2 ?_
          refine S_iload X dX9_readItems_36 rfl ?_
          refine S_ishr X dX9_readItems_38 ?_
          refine S_iconst X dX9_readItems_39 ?_
          refine S_iand X dX9_readItems_40 ?_
          have hza := zAnd1 (zShr seen (itemOf (ch T n (sk T n a1))))
          refine S_if_eq (tgt := 49) X dX9_readItems_41 (by decide) (by omega) (fun c_19 => ?_) (fun c_19 => ?_)
          ·
            have hsn : ¬ ((true = false ∧ itemOf (ch T n (sk T n a1)) ≠ 0) ∨ zAnd (zShr seen (itemOf (ch T n (sk T n a1)))) 1 ≠ 0) := by simp only [reduceCtorEq, false_and, false_or]; omega
            refine S_iload_n X dX9_readItems_49 rfl hL4_2 ?_
            refine S_iconst X dX9_readItems_50 ?_
            refine S_iload X dX9_readItems_51 rfl ?_
            refine S_ishl X dX9_readItems_53 ?_
            refine S_ior X dX9_readItems_54 ?_
            refine S_istore_n X dX9_readItems_55 rfl (nle rfl) ?_
            refine S_aload_n X dX9_readItems_56 rfl hL4_0 ?_
            refine S_dup X dX9_readItems_57 ?_
            refine S_get (v := iv (sk T n a1)) X fgX9_35_8 0 rfl rfl dX9_readItems_58 ?_
            refine S_iconst X dX9_readItems_61 ?_
            refine S_iadd X dX9_readItems_62 ?_
            refine S_put X fpX9_35_8 0 rfl FT_i dX9_readItems_63 ?_
            refine S_w (ws' := [(h0, ob 8 (uF (uF (uF f 1 (iv ((sk T n a1) + 1))) 2 (iv w)) 4 (iv x))), (ht, ob 6 ft), (hb, ar 160 T), (hd, ob 7 (uF (uF fd 0 (iv pl)) 1 (iv mt))), (hB, ar 6 (colR (uZ R q r) 0)), (hD, ar 6 (colR (uZ R q r) 1)), (hK, ar 6 (colR (uZ R q r) 2)), (hF, ar 6 (colR (uZ R q r) 3)), (hH, ar 6 (colR (uZ R q r) 4))]) (by simp only [List.set]; rw [uF_mv (j := 4) (k := 1) (by decide), uF_mv (j := 2) (k := 1) (by decide), uF_same (k := 1)]) ?_
            refine S_aload_n X dX9_readItems_66 rfl hL4_0 ?_
            refine S_iconst X dX9_readItems_67 ?_
            refine S_getsLEAST X m586 dX9_readItems_68 (fun tLEAST htLEAST => ?_)
            refine S_iload X dX9_readItems_71 rfl ?_
            refine S_tald X htLEAST fTL_g (by omega) (by omega) (nle rfl) dX9_readItems_73 ?_
            refine S_getsMOST X m588 dX9_readItems_74 (fun tMOST htMOST => ?_)
            refine S_iload X dX9_readItems_77 rfl ?_
            refine S_tald X htMOST fTM_g (by omega) (by omega) (nle rfl) dX9_readItems_79 ?_
            refine S_calli X (kX5_readNumber_8 l h0 ht hb f ft T n ((sk T n a1) + 1) w x 2 (gTL (itemOf (ch T n (sk T n a1)))) (gTM (itemOf (ch T n (sk T n a1)))) hf0 hf1 hf2 (by omega) (by omega) (by omega)) (is := [0, 1, 2]) rfl (run_U X lkX9_60_8 0 rfl rfl (is := [0, 1, 2]) (avs := [iv 2, iv (gTL (itemOf (ch T n (sk T n a1)))), iv (gTM (itemOf (ch T n (sk T n a1))))]) (rest := []) rfl rfl (nle rfl) ⟨nle rfl, nle rfl⟩ ⟨nle rfl, nle rfl⟩ dX9_readItems_80 (by decide) rfl) (fun z_22 u_20 hp_21 => ?_)
            rcases hp_21 with ⟨a2_23, fl_24, hz_25, hu_26, hq_27, hr_28⟩ | ⟨a2_29, v2_30, hz_31, hu_32, hq_33⟩
            ·
              subst hz_25
              subst hu_26
              refine ⟨rfl, ?_⟩
              refine S_w (ws' := [(h0, ob 8 (uF (uF (uF f 1 (iv a2_23)) 2 (iv fl_24)) 4 (iv x))), (ht, ob 6 ft), (hb, ar 160 T), (hd, ob 7 (uF (uF fd 0 (iv pl)) 1 (iv mt))), (hB, ar 6 (colR (uZ R q r) 0)), (hD, ar 6 (colR (uZ R q r) 1)), (hK, ar 6 (colR (uZ R q r) 2)), (hF, ar 6 (colR (uZ R q r) 3)), (hH, ar 6 (colR (uZ R q r) 4))]) rfl ?_
              refine S_istore X dX9_readItems_83 (nle rfl) ?_
              refine S_iload X dX9_readItems_85 rfl ?_
              refine S_iconst X dX9_readItems_87 ?_
              refine S_icmp_ne (tgt := 93) X dX9_readItems_88 (by decide) (by decide) (by decide) (fun h9 => absurd h9 (by decide)) (fun _ => ?_)
              refine S_iconst X dX9_readItems_91 ?_
              exact S_zret X (Or.inl rfl) (nle rfl) (nle rfl) dX9_readItems_92 (hPo _ _ (Or.inl ⟨_, _, _, rfl, rfl, hk _ (by rw [fuel6 (by omega) (by omega)]; exact pIt_n hne hsn hq_27), by omega, by omega⟩))
            ·
              subst hz_31
              subst hu_32
              refine ⟨rfl, ?_⟩
              refine S_w (ws' := [(h0, ob 8 (uF (uF (uF f 1 (iv a2_29)) 2 (iv w)) 4 (iv x))), (ht, ob 6 ft), (hb, ar 160 T), (hd, ob 7 (uF (uF fd 0 (iv pl)) 1 (iv mt))), (hB, ar 6 (colR (uZ R q r) 0)), (hD, ar 6 (colR (uZ R q r) 1)), (hK, ar 6 (colR (uZ R q r) 2)), (hF, ar 6 (colR (uZ R q r) 3)), (hH, ar 6 (colR (uZ R q r) 4))]) rfl ?_
              have hnum := hq_33
              have hnv := (pNum_in (T := T) (n := n) (dg := 2) (lo := gTL (itemOf (ch T n (sk T n a1)))) (hi := gTM (itemOf (ch T n (sk T n a1)))) (a := sk T n a1 + 1) (by omega) (by decide) hn1 (by omega)).2 _ hnum
              dsimp only at hnv
              refine S_istore X dX9_readItems_83 (nle rfl) ?_
              refine S_iload X dX9_readItems_85 rfl ?_
              refine S_iconst X dX9_readItems_87 ?_
              refine S_icmp_ne (tgt := 93) X dX9_readItems_88 (by decide) (by omega) (by decide) (fun c_35 => ?_) (fun c_35 => by exfalso; omega)
              refine S_aload_n X dX9_readItems_93 rfl hL4_0 ?_
              refine S_iload_n X dX9_readItems_94 rfl hL4_1 ?_
              refine S_iload X dX9_readItems_95 rfl ?_
              refine S_iload X dX9_readItems_97 rfl ?_
              refine S_callv X (kX9_keep_P l h0 ht hb f ft T n a2_29 w x hd fd hB hD hK hF hH pl mt (uZ R q r) (itemOf (ch T n (sk T n a1))) z_22 _ hf0 hf1 hf2 hf3 hf4 hf5 hf6 hf7 hf8 (by omega) (by omega)) (is := [0, 1, 2, 3, 4, 5, 6, 7, 8]) rfl (run_V X lkX9_64 0 rfl rfl (is := [0, 1, 2, 3, 4, 5, 6, 7, 8]) (avs := [iv 1, iv (itemOf (ch T n (sk T n a1))), iv z_22]) (rest := []) rfl rfl (nle rfl) ⟨nle rfl, nle rfl⟩ ⟨nle rfl, nle rfl⟩ dX9_readItems_99 (by decide) rfl) (fun u_36 hp_37 => ?_)
              have hu_40 := hp_37
              subst hu_40
              refine ⟨rfl, ?_⟩
              refine S_w (ws' := [(h0, ob 8 (uF (uF (uF f 1 (iv a2_29)) 2 (iv w)) 4 (iv x))), (ht, ob 6 ft), (hb, ar 160 T), (hd, ob 7 (uF (uF fd 0 (iv pl)) 1 (iv mt))), (hB, ar 6 (colR (uZ (uZ R q r) q (uZ ((uZ R q r) q) (itemOf (ch T n (sk T n a1))) z_22)) 0)), (hD, ar 6 (colR (uZ (uZ R q r) q (uZ ((uZ R q r) q) (itemOf (ch T n (sk T n a1))) z_22)) 1)), (hK, ar 6 (colR (uZ (uZ R q r) q (uZ ((uZ R q r) q) (itemOf (ch T n (sk T n a1))) z_22)) 2)), (hF, ar 6 (colR (uZ (uZ R q r) q (uZ ((uZ R q r) q) (itemOf (ch T n (sk T n a1))) z_22)) 3)), (hH, ar 6 (colR (uZ (uZ R q r) q (uZ ((uZ R q r) q) (itemOf (ch T n (sk T n a1))) z_22)) 4))]) rfl ?_
              refine S_w (ws' := [(h0, ob 8 (uF (uF (uF f 1 (iv a2_29)) 2 (iv w)) 4 (iv x))), (ht, ob 6 ft), (hb, ar 160 T), (hd, ob 7 (uF (uF fd 0 (iv pl)) 1 (iv mt))), (hB, ar 6 (colR (uZ R q (uZ r (itemOf (ch T n (sk T n a1))) z_22)) 0)), (hD, ar 6 (colR (uZ R q (uZ r (itemOf (ch T n (sk T n a1))) z_22)) 1)), (hK, ar 6 (colR (uZ R q (uZ r (itemOf (ch T n (sk T n a1))) z_22)) 2)), (hF, ar 6 (colR (uZ R q (uZ r (itemOf (ch T n (sk T n a1))) z_22)) 3)), (hH, ar 6 (colR (uZ R q (uZ r (itemOf (ch T n (sk T n a1))) z_22)) 4))]) (by simp only [uZ_same, uZ_at]) ?_
              refine S_iinc X dX9_readItems_102 (nle rfl) hL4_3 ?_
              refine S_goto (tgt := 4) X dX9_readItems_105 (by decide) ?_
              exact ih4 (i + 1) a2_29 (zOr seen (zShl 1 (itemOf (ch T n (sk T n a1))))) (uZ r (itemOf (ch T n (sk T n a1))) z_22) _ (by omega) (fun z9 h9 => hk z9 ((by rw [fuel6 (by omega) (by omega), pIt_g hne hsn hnum, show 5 - i.toNat = 6 - (i + 1).toNat by omega]; exact h9))) hL4_0 hL4_1 rfl rfl (by omega)
          ·
            refine S_aload_n X dX9_readItems_44 rfl hL4_0 ?_
            refine S_calli X (kX5_fail_8 l h0 ht hb f ft T n (sk T n a1) w x hf0 hf1 hf2) (is := [0, 1, 2]) rfl (run_U X lkX9_45_8 0 rfl rfl (is := [0, 1, 2]) (avs := []) (rest := []) rfl rfl (nle rfl) ⟨nle rfl, nle rfl⟩ ⟨nle rfl, nle rfl⟩ dX9_readItems_45 (by decide) rfl) (fun z_43 u_41 hp_42 => ?_)
            obtain ⟨hz_44, hu_45⟩ := hp_42
            subst hz_44
            subst hu_45
            refine ⟨rfl, ?_⟩
            refine S_w (ws' := [(h0, ob 8 (uF (uF (uF f 1 (iv (sk T n a1))) 2 (iv (sk T n a1))) 4 (iv x))), (ht, ob 6 ft), (hb, ar 160 T), (hd, ob 7 (uF (uF fd 0 (iv pl)) 1 (iv mt))), (hB, ar 6 (colR (uZ R q r) 0)), (hD, ar 6 (colR (uZ R q r) 1)), (hK, ar 6 (colR (uZ R q r) 2)), (hF, ar 6 (colR (uZ R q r) 3)), (hH, ar 6 (colR (uZ R q r) 4))]) rfl ?_
            exact S_zret X (Or.inl rfl) (nle rfl) (nle rfl) dX9_readItems_48 (hPo _ _ (Or.inl ⟨_, _, _, rfl, rfl, hk _ (by rw [fuel6 (by omega) (by omega)]; exact pIt_f hne (Or.inr (by omega))), by omega, by omega⟩))
        ·
          refine S_iconst X dX9_readItems_24 ?_
          exact S_zret X (Or.inr rfl) (nle rfl) (nle rfl) dX9_readItems_25 (hPo _ _ (Or.inr ⟨_, r, rfl, rfl, hk _ (by rw [fuel6 (by omega) (by omega)]; exact pIt_s (by assumption))⟩))
  exact lp4_0 (Int.toNat (7 - 0) + 1) 0 a 0 row0 _ (by omega) (fun _ h9 => h9) rfl rfl rfl rfl (by omega)
set_option maxHeartbeats 4000000 in
set_option maxRecDepth 100000 in
theorem kX9_readItems_M (l : Launch) (h0 : Nat) (ht : Nat) (hb : Nat) (f : Nat → AV) (ft : Nat → AV) (T : Int → Int) (n : Int) (a : Int) (w : Int) (x : Int) (hd : Nat) (fd : Nat → AV) (hB : Nat) (hD : Nat) (hK : Nat) (hF : Nat) (hH : Nat) (pl : Int) (mt : Int) (R : Int → Int → Int) (hf0 : f 0 = rv ht) (hf1 : ft 0 = rv hb) (hf2 : ft 1 = iv n) (hf3 : f 3 = rv hd) (hf4 : fd 2 = rv hB) (hf5 : fd 3 = rv hD) (hf6 : fd 4 = rv hK) (hf7 : fd 5 = rv hF) (hf8 : fd 6 = rv hH) (hT : okT T n) (ha : 0 ≤ a ∧ a ≤ n) (hm : 1 ≤ mt ∧ mt ≤ 99) : AMi l yX9_readItems cX9_readItems 6 .boolean 3 0 0 [rv h0, iv 0] [(h0, ob 8 (uF (uF (uF f 1 (iv a)) 2 (iv w)) 4 (iv x))), (ht, ob 6 ft), (hb, ar 160 T), (hd, ob 7 (uF (uF fd 0 (iv pl)) 1 (iv mt))), (hB, ar 6 (colR R 0)), (hD, ar 6 (colR R 1)), (hK, ar 6 (colR R 2)), (hF, ar 6 (colR R 3)), (hH, ar 6 (colR R 4))] (fun z u => (∃ a2 : Int, ∃ fl : Int, ∃ mt2 : Int, z = 0 ∧ u = [(h0, ob 8 (uF (uF (uF f 1 (iv a2)) 2 (iv fl)) 4 (iv x))), (ht, ob 6 ft), (hb, ar 160 T), (hd, ob 7 (uF (uF fd 0 (iv pl)) 1 (iv mt2))), (hB, ar 6 (colR R 0)), (hD, ar 6 (colR R 1)), (hK, ar 6 (colR R 2)), (hF, ar 6 (colR R 3)), (hH, ar 6 (colR R 4))] ∧ pIt T n false 6 0 a (fun _ => mt) = .inl fl ∧ (0 ≤ a2 ∧ a2 ≤ n)) ∨ (∃ a2 : Int, ∃ r2 : Int → Int, z = 1 ∧ u = [(h0, ob 8 (uF (uF (uF f 1 (iv a2)) 2 (iv w)) 4 (iv x))), (ht, ob 6 ft), (hb, ar 160 T), (hd, ob 7 (uF (uF fd 0 (iv pl)) 1 (iv (r2 0)))), (hB, ar 6 (colR R 0)), (hD, ar 6 (colR R 1)), (hK, ar 6 (colR R 2)), (hF, ar 6 (colR R 3)), (hH, ar 6 (colR R 4))] ∧ pIt T n false 6 0 a (fun _ => mt) = .inr (a2, r2))) := by
  refine AMi.of2 rfl (nle rfl) ?_
  intro D G A p e s m args below meth c Po hPo X
  obtain ⟨hn0, hn1, hT2⟩ := id hT
  refine S_iconst X dX9_readItems_0 ?_
  refine S_istore_n X dX9_readItems_1 rfl (nle rfl) ?_
  refine S_iconst X dX9_readItems_2 ?_
  refine S_istore_n X dX9_readItems_3 rfl (nle rfl) ?_
  have lp4_0 : ∀ (N : Nat) (i : Int) (a1 : Int) (seen : Int) (r : Int → Int) (L : Nat → Option AV), 0 ≤ i ∧ i ≤ 6 ∧ 0 ≤ a1 ∧ a1 ≤ n → (∀ z9, pIt T n false (6 - i.toNat) seen a1 r = z9 → pIt T n false 6 0 a (fun _ => mt) = z9) → L 0 = some (rv h0) → L 1 = some (iv 0) → L 2 = some (iv seen) → L 3 = some (iv i) → 7 - i < (N : Int) → S_ p l e (rmD 3 0 0) s m args below meth c (MQ below (QcI D G A Po) args s 0 0 A) D G A 6 0 0 4 L [] [(h0, ob 8 (uF (uF (uF f 1 (iv a1)) 2 (iv w)) 4 (iv x))), (ht, ob 6 ft), (hb, ar 160 T), (hd, ob 7 (uF (uF fd 0 (iv pl)) 1 (iv (r 0)))), (hB, ar 6 (colR R 0)), (hD, ar 6 (colR R 1)), (hK, ar 6 (colR R 2)), (hF, ar 6 (colR R 3)), (hH, ar 6 (colR R 4))] := by
    intro N
    induction N with
    | zero =>
      intro i a1 seen r L4 hi hk hL4_0 hL4_1 hL4_2 hL4_3 hN4
      exfalso; omega
    | succ N ih4 =>
      intro i a1 seen r L4 hi hk hL4_0 hL4_1 hL4_2 hL4_3 hN4
      refine S_iload_n X dX9_readItems_4 rfl hL4_3 ?_
      refine S_iconst X dX9_readItems_5 ?_
      refine S_icmp_gt (tgt := 108) X dX9_readItems_6 (by decide) (by omega) (by decide) (fun c_1 => ?_) (fun c_1 => ?_)
      ·
        refine S_aload_n X dX9_readItems_108 rfl hL4_0 ?_
        refine S_calli X (kX5_fail_8 l h0 ht hb f ft T n a1 w x hf0 hf1 hf2) (is := [0, 1, 2]) rfl (run_U X lkX9_45_8 0 rfl rfl (is := [0, 1, 2]) (avs := []) (rest := []) rfl rfl (nle rfl) ⟨nle rfl, nle rfl⟩ ⟨nle rfl, nle rfl⟩ dX9_readItems_109 (by decide) rfl) (fun z_4 u_2 hp_3 => ?_)
        obtain ⟨hz_5, hu_6⟩ := hp_3
        subst hz_5
        subst hu_6
        refine ⟨rfl, ?_⟩
        refine S_w (ws' := [(h0, ob 8 (uF (uF (uF f 1 (iv a1)) 2 (iv a1)) 4 (iv x))), (ht, ob 6 ft), (hb, ar 160 T), (hd, ob 7 (uF (uF fd 0 (iv pl)) 1 (iv (r 0)))), (hB, ar 6 (colR R 0)), (hD, ar 6 (colR R 1)), (hK, ar 6 (colR R 2)), (hF, ar 6 (colR R 3)), (hH, ar 6 (colR R 4))]) rfl ?_
        exact S_zret X (Or.inl rfl) (nle rfl) (nle rfl) dX9_readItems_112 (hPo _ _ (Or.inl ⟨_, _, _, rfl, rfl, hk _ (by rw [show 6 - i.toNat = 0 by omega]; rfl), by omega, by omega⟩))
      ·
        refine S_aload_n X dX9_readItems_9 rfl hL4_0 ?_
        refine S_calli X (kX5_peek_8 l h0 ht hb f ft T n a1 w x hf0 hf1 hf2 (by omega) (by omega)) (is := [0, 1, 2]) rfl (run_U X lkX9_27_8 0 rfl rfl (is := [0, 1, 2]) (avs := []) (rest := []) rfl rfl (nle rfl) ⟨nle rfl, nle rfl⟩ ⟨nle rfl, nle rfl⟩ dX9_readItems_10 (by decide) rfl) (fun z_9 u_7 hp_8 => ?_)
        obtain ⟨hz_10, hu_11⟩ := hp_8
        subst hz_10
        subst hu_11
        refine ⟨rfl, ?_⟩
        refine S_w (ws' := [(h0, ob 8 (uF (uF (uF f 1 (iv (sk T n a1))) 2 (iv w)) 4 (iv x))), (ht, ob 6 ft), (hb, ar 160 T), (hd, ob 7 (uF (uF fd 0 (iv pl)) 1 (iv (r 0)))), (hB, ar 6 (colR R 0)), (hD, ar 6 (colR R 1)), (hK, ar 6 (colR R 2)), (hF, ar 6 (colR R 3)), (hH, ar 6 (colR R 4))]) rfl ?_
        have hsk := sk_in (T := T) (n := n) (a := a1) (by omega)
        have hch := ch_in (a := sk T n a1) hT (by omega)
        have hit := itemOf_in (ch T n (sk T n a1))
        refine S_calli X (kX9_itemOf l (ch T n (sk T n a1)) (by omega)) (is := []) rfl (run_S X lkX9_49 (is := []) (avs := [iv (ch T n (sk T n a1))]) (rest := []) rfl rfl (nle rfl) ⟨nle rfl, nle rfl⟩ ⟨nle rfl, nle rfl⟩ dX9_readItems_13 (by decide) rfl) (fun z_14 u_12 hp_13 => ?_)
        obtain ⟨hz_15, hu_16⟩ := hp_13
        subst hz_15
        subst hu_16
        refine ⟨rfl, ?_⟩
        refine S_w (ws' := [(h0, ob 8 (uF (uF (uF f 1 (iv (sk T n a1))) 2 (iv w)) 4 (iv x))), (ht, ob 6 ft), (hb, ar 160 T), (hd, ob 7 (uF (uF fd 0 (iv pl)) 1 (iv (r 0)))), (hB, ar 6 (colR R 0)), (hD, ar 6 (colR R 1)), (hK, ar 6 (colR R 2)), (hF, ar 6 (colR R 3)), (hH, ar 6 (colR R 4))]) rfl ?_
        refine S_istore X dX9_readItems_16 (nle rfl) ?_
        refine S_iload X dX9_readItems_18 rfl ?_
        refine S_iconst X dX9_readItems_20 ?_
        refine S_icmp_ne (tgt := 26) X dX9_readItems_21 (by decide) (by omega) (by decide) (fun c_17 => ?_) (fun c_17 => ?_)
        ·
          have hne : itemOf (ch T n (sk T n a1)) ≠ -1 := by assumption
          have hi5 : 0 ≤ itemOf (ch T n (sk T n a1)) ∧ itemOf (ch T n (sk T n a1)) ≤ 4 := hit.resolve_left hne
          have hg := gT_in hi5
          have hlt : sk T n a1 < n := (Int.lt_or_le (sk T n a1) n).elim id (fun q9 => absurd (by unfold ch; rw [if_neg (by omega)]; rfl) hne)
          refine S_iload_n X dX9_readItems_26 rfl hL4_1 ?_
          refine S_if_ne (tgt := 35) X dX9_readItems_27 (by decide) (by decide) (fun h9 => absurd h9 (by decide)) (fun _ => ?_)
          refine S_iload X dX9_readItems_30 rfl ?_
          refine S_if_ne (tgt := 44) X dX9_readItems_32 (by decide) (by omega) (fun c_19 => ?_) (fun c_19 => ?_)
          ·
            refine S_aload_n X dX9_readItems_44 rfl hL4_0 ?_
            refine S_calli X (kX5_fail_8 l h0 ht hb f ft T n (sk T n a1) w x hf0 hf1 hf2) (is := [0, 1, 2]) rfl (run_U X lkX9_45_8 0 rfl rfl (is := [0, 1, 2]) (avs := []) (rest := []) rfl rfl (nle rfl) ⟨nle rfl, nle rfl⟩ ⟨nle rfl, nle rfl⟩ dX9_readItems_45 (by decide) rfl) (fun z_22 u_20 hp_21 => ?_)
            obtain ⟨hz_23, hu_24⟩ := hp_21
            subst hz_23
            subst hu_24
            refine ⟨rfl, ?_⟩
            refine S_w (ws' := [(h0, ob 8 (uF (uF (uF f 1 (iv (sk T n a1))) 2 (iv (sk T n a1))) 4 (iv x))), (ht, ob 6 ft), (hb, ar 160 T), (hd, ob 7 (uF (uF fd 0 (iv pl)) 1 (iv (r 0)))), (hB, ar 6 (colR R 0)), (hD, ar 6 (colR R 1)), (hK, ar 6 (colR R 2)), (hF, ar 6 (colR R 3)), (hH, ar 6 (colR R 4))]) rfl ?_
            exact S_zret X (Or.inl rfl) (nle rfl) (nle rfl) dX9_readItems_48 (hPo _ _ (Or.inl ⟨_, _, _, rfl, rfl, hk _ (by rw [fuel6 (by omega) (by omega)]; exact pIt_f hne (by simp only [true_and]; omega)), by omega, by omega⟩))
          ·
            refine S_iload_n X dX9_readItems_35 rfl hL4_2 ?_
            refine S_iload X dX9_readItems_36 rfl ?_
            refine S_ishr X dX9_readItems_38 ?_
            refine S_iconst X dX9_readItems_39 ?_
            refine S_iand X dX9_readItems_40 ?_
            have hza := zAnd1 (zShr seen (itemOf (ch T n (sk T n a1))))
            refine S_if_eq (tgt := 49) X dX9_readItems_41 (by decide) (by omega) (fun c_25 => ?_) (fun c_25 => ?_)
            ·
              have hsn : ¬ ((false = false ∧ itemOf (ch T n (sk T n a1)) ≠ 0) ∨ zAnd (zShr seen (itemOf (ch T n (sk T n a1)))) 1 ≠ 0) := by simp only [true_and]; omega
              refine S_iload_n X dX9_readItems_49 rfl hL4_2 ?_
              refine S_iconst X dX9_readItems_50 ?_
              refine S_iload X dX9_readItems_51 rfl ?_
              refine S_ishl X dX9_readItems_53 ?_
              refine S_ior X dX9_readItems_54 ?_
              refine S_istore_n X dX9_readItems_55 rfl (nle rfl) ?_
              refine S_aload_n X dX9_readItems_56 rfl hL4_0 ?_
              refine S_dup X dX9_readItems_57 ?_
              refine S_get (v := iv (sk T n a1)) X fgX9_35_8 0 rfl rfl dX9_readItems_58 ?_
              refine S_iconst X dX9_readItems_61 ?_
              refine S_iadd X dX9_readItems_62 ?_
              refine S_put X fpX9_35_8 0 rfl FT_i dX9_readItems_63 ?_
              refine S_w (ws' := [(h0, ob 8 (uF (uF (uF f 1 (iv ((sk T n a1) + 1))) 2 (iv w)) 4 (iv x))), (ht, ob 6 ft), (hb, ar 160 T), (hd, ob 7 (uF (uF fd 0 (iv pl)) 1 (iv (r 0)))), (hB, ar 6 (colR R 0)), (hD, ar 6 (colR R 1)), (hK, ar 6 (colR R 2)), (hF, ar 6 (colR R 3)), (hH, ar 6 (colR R 4))]) (by simp only [List.set]; rw [uF_mv (j := 4) (k := 1) (by decide), uF_mv (j := 2) (k := 1) (by decide), uF_same (k := 1)]) ?_
              refine S_aload_n X dX9_readItems_66 rfl hL4_0 ?_
              refine S_iconst X dX9_readItems_67 ?_
              refine S_getsLEAST X m586 dX9_readItems_68 (fun tLEAST htLEAST => ?_)
              refine S_iload X dX9_readItems_71 rfl ?_
              refine S_tald X htLEAST fTL_g (by omega) (by omega) (nle rfl) dX9_readItems_73 ?_
              refine S_getsMOST X m588 dX9_readItems_74 (fun tMOST htMOST => ?_)
              refine S_iload X dX9_readItems_77 rfl ?_
              refine S_tald X htMOST fTM_g (by omega) (by omega) (nle rfl) dX9_readItems_79 ?_
              refine S_calli X (kX5_readNumber_8 l h0 ht hb f ft T n ((sk T n a1) + 1) w x 2 (gTL (itemOf (ch T n (sk T n a1)))) (gTM (itemOf (ch T n (sk T n a1)))) hf0 hf1 hf2 (by omega) (by omega) (by omega)) (is := [0, 1, 2]) rfl (run_U X lkX9_60_8 0 rfl rfl (is := [0, 1, 2]) (avs := [iv 2, iv (gTL (itemOf (ch T n (sk T n a1)))), iv (gTM (itemOf (ch T n (sk T n a1))))]) (rest := []) rfl rfl (nle rfl) ⟨nle rfl, nle rfl⟩ ⟨nle rfl, nle rfl⟩ dX9_readItems_80 (by decide) rfl) (fun z_28 u_26 hp_27 => ?_)
              rcases hp_27 with ⟨a2_29, fl_30, hz_31, hu_32, hq_33, hr_34⟩ | ⟨a2_35, v2_36, hz_37, hu_38, hq_39⟩
              ·
                subst hz_31
                subst hu_32
                refine ⟨rfl, ?_⟩
                refine S_w (ws' := [(h0, ob 8 (uF (uF (uF f 1 (iv a2_29)) 2 (iv fl_30)) 4 (iv x))), (ht, ob 6 ft), (hb, ar 160 T), (hd, ob 7 (uF (uF fd 0 (iv pl)) 1 (iv (r 0)))), (hB, ar 6 (colR R 0)), (hD, ar 6 (colR R 1)), (hK, ar 6 (colR R 2)), (hF, ar 6 (colR R 3)), (hH, ar 6 (colR R 4))]) rfl ?_
                refine S_istore X dX9_readItems_83 (nle rfl) ?_
                refine S_iload X dX9_readItems_85 rfl ?_
                refine S_iconst X dX9_readItems_87 ?_
                refine S_icmp_ne (tgt := 93) X dX9_readItems_88 (by decide) (by decide) (by decide) (fun h9 => absurd h9 (by decide)) (fun _ => ?_)
                refine S_iconst X dX9_readItems_91 ?_
                exact S_zret X (Or.inl rfl) (nle rfl) (nle rfl) dX9_readItems_92 (hPo _ _ (Or.inl ⟨_, _, _, rfl, rfl, hk _ (by rw [fuel6 (by omega) (by omega)]; exact pIt_n hne hsn hq_33), by omega, by omega⟩))
              ·
                subst hz_37
                subst hu_38
                refine ⟨rfl, ?_⟩
                refine S_w (ws' := [(h0, ob 8 (uF (uF (uF f 1 (iv a2_35)) 2 (iv w)) 4 (iv x))), (ht, ob 6 ft), (hb, ar 160 T), (hd, ob 7 (uF (uF fd 0 (iv pl)) 1 (iv (r 0)))), (hB, ar 6 (colR R 0)), (hD, ar 6 (colR R 1)), (hK, ar 6 (colR R 2)), (hF, ar 6 (colR R 3)), (hH, ar 6 (colR R 4))]) rfl ?_
                have hnum := hq_39
                have hnv := (pNum_in (T := T) (n := n) (dg := 2) (lo := gTL (itemOf (ch T n (sk T n a1)))) (hi := gTM (itemOf (ch T n (sk T n a1)))) (a := sk T n a1 + 1) (by omega) (by decide) hn1 (by omega)).2 _ hnum
                dsimp only at hnv
                refine S_istore X dX9_readItems_83 (nle rfl) ?_
                refine S_iload X dX9_readItems_85 rfl ?_
                refine S_iconst X dX9_readItems_87 ?_
                refine S_icmp_ne (tgt := 93) X dX9_readItems_88 (by decide) (by omega) (by decide) (fun c_41 => ?_) (fun c_41 => by exfalso; omega)
                refine S_aload_n X dX9_readItems_93 rfl hL4_0 ?_
                refine S_iload_n X dX9_readItems_94 rfl hL4_1 ?_
                refine S_iload X dX9_readItems_95 rfl ?_
                refine S_iload X dX9_readItems_97 rfl ?_
                refine S_callv X (kX9_keep_M l h0 ht hb f ft T n a2_35 w x hd fd hB hD hK hF hH pl (r 0) R (itemOf (ch T n (sk T n a1))) z_28 hf0 hf1 hf2 hf3 hf4 hf5 hf6 hf7 hf8) (is := [0, 1, 2, 3, 4, 5, 6, 7, 8]) rfl (run_V X lkX9_64 0 rfl rfl (is := [0, 1, 2, 3, 4, 5, 6, 7, 8]) (avs := [iv 0, iv (itemOf (ch T n (sk T n a1))), iv z_28]) (rest := []) rfl rfl (nle rfl) ⟨nle rfl, nle rfl⟩ ⟨nle rfl, nle rfl⟩ dX9_readItems_99 (by decide) rfl) (fun u_42 hp_43 => ?_)
                have hu_46 := hp_43
                subst hu_46
                refine ⟨rfl, ?_⟩
                refine S_w (ws' := [(h0, ob 8 (uF (uF (uF f 1 (iv a2_35)) 2 (iv w)) 4 (iv x))), (ht, ob 6 ft), (hb, ar 160 T), (hd, ob 7 (uF (uF fd 0 (iv pl)) 1 (iv z_28))), (hB, ar 6 (colR R 0)), (hD, ar 6 (colR R 1)), (hK, ar 6 (colR R 2)), (hF, ar 6 (colR R 3)), (hH, ar 6 (colR R 4))]) rfl ?_
                have hi0 : itemOf (ch T n (sk T n a1)) = 0 := by omega
                refine S_w (ws' := [(h0, ob 8 (uF (uF (uF f 1 (iv a2_35)) 2 (iv w)) 4 (iv x))), (ht, ob 6 ft), (hb, ar 160 T), (hd, ob 7 (uF (uF fd 0 (iv pl)) 1 (iv ((uZ r (itemOf (ch T n (sk T n a1))) z_28) 0)))), (hB, ar 6 (colR R 0)), (hD, ar 6 (colR R 1)), (hK, ar 6 (colR R 2)), (hF, ar 6 (colR R 3)), (hH, ar 6 (colR R 4))]) (by rw [hi0, uZ_at]) ?_
                refine S_iinc X dX9_readItems_102 (nle rfl) hL4_3 ?_
                refine S_goto (tgt := 4) X dX9_readItems_105 (by decide) ?_
                exact ih4 (i + 1) a2_35 (zOr seen (zShl 1 (itemOf (ch T n (sk T n a1))))) (uZ r (itemOf (ch T n (sk T n a1))) z_28) _ (by omega) (fun z9 h9 => hk z9 ((by rw [fuel6 (by omega) (by omega), pIt_g hne hsn hnum, show 5 - i.toNat = 6 - (i + 1).toNat by omega]; exact h9))) hL4_0 hL4_1 rfl rfl (by omega)
            ·
              refine S_aload_n X dX9_readItems_44 rfl hL4_0 ?_
              refine S_calli X (kX5_fail_8 l h0 ht hb f ft T n (sk T n a1) w x hf0 hf1 hf2) (is := [0, 1, 2]) rfl (run_U X lkX9_45_8 0 rfl rfl (is := [0, 1, 2]) (avs := []) (rest := []) rfl rfl (nle rfl) ⟨nle rfl, nle rfl⟩ ⟨nle rfl, nle rfl⟩ dX9_readItems_45 (by decide) rfl) (fun z_49 u_47 hp_48 => ?_)
              obtain ⟨hz_50, hu_51⟩ := hp_48
              subst hz_50
              subst hu_51
              refine ⟨rfl, ?_⟩
              refine S_w (ws' := [(h0, ob 8 (uF (uF (uF f 1 (iv (sk T n a1))) 2 (iv (sk T n a1))) 4 (iv x))), (ht, ob 6 ft), (hb, ar 160 T), (hd, ob 7 (uF (uF fd 0 (iv pl)) 1 (iv (r 0)))), (hB, ar 6 (colR R 0)), (hD, ar 6 (colR R 1)), (hK, ar 6 (colR R 2)), (hF, ar 6 (colR R 3)), (hH, ar 6 (colR R 4))]) rfl ?_
              exact S_zret X (Or.inl rfl) (nle rfl) (nle rfl) dX9_readItems_48 (hPo _ _ (Or.inl ⟨_, _, _, rfl, rfl, hk _ (by rw [fuel6 (by omega) (by omega)]; exact pIt_f hne (by simp only [true_and]; omega)), by omega, by omega⟩))
        ·
          refine S_iconst X dX9_readItems_24 ?_
          exact S_zret X (Or.inr rfl) (nle rfl) (nle rfl) dX9_readItems_25 (hPo _ _ (Or.inr ⟨_, r, rfl, rfl, hk _ (by rw [fuel6 (by omega) (by omega)]; exact pIt_s (by assumption))⟩))
  exact lp4_0 (Int.toNat (7 - 0) + 1) 0 a 0 (fun _ => mt) _ (by omega) (fun _ h9 => h9) rfl rfl rfl rfl (by omega)
set_option maxHeartbeats 4000000 in
set_option maxRecDepth 100000 in
theorem kX9_isWhole (l : Launch) (h0 : Nat) (f : Nat → AV) (a : Int) (w : Int) (x : Int) (hd : Nat) (fd : Nat → AV) (hF : Nat) (pl : Int) (mt : Int) (R : Int → Int → Int) (hf0 : f 3 = rv hd) (hf1 : fd 5 = rv hF) (hp : 0 ≤ pl ∧ pl ≤ 6) (hR : ∀ j, 0 ≤ j → j < pl → okRow (R j)) : AMi l yX9_isWhole cX9_isWhole 2 .boolean 0 0 0 [rv h0] [(h0, ob 8 (uF (uF (uF f 1 (iv a)) 2 (iv w)) 4 (iv x))), (hd, ob 7 (uF (uF fd 0 (iv pl)) 1 (iv mt))), (hF, ar 6 (colR R 3))] (fun z u => (z = 0 ∧ u = [(h0, ob 8 (uF (uF (uF f 1 (iv a)) 2 (iv w)) 4 (iv x))), (hd, ob 7 (uF (uF fd 0 (iv pl)) 1 (iv mt))), (hF, ar 6 (colR R 3))] ∧ ¬ okTn (pl, mt, x, R)) ∨ (z = 1 ∧ u = [(h0, ob 8 (uF (uF (uF f 1 (iv a)) 2 (iv w)) 4 (iv x))), (hd, ob 7 (uF (uF fd 0 (iv pl)) 1 (iv mt))), (hF, ar 6 (colR R 3))] ∧ okTn (pl, mt, x, R))) := by
  refine AMi.of2 rfl (nle rfl) ?_
  intro D G A p e s m args below meth c Po hPo X
  refine S_iconst X dX9_isWhole_0 ?_
  refine S_istore_n X dX9_isWhole_1 rfl (nle rfl) ?_
  have lp2_0 : ∀ (N : Nat) (i : Int) (L : Nat → Option AV), 0 ≤ i ∧ i ≤ pl ∧ i ≤ 6 → (∀ j, 0 ≤ j → j < i → R j 3 ≠ j ∧ R j 3 < pl) → L 0 = some (rv h0) → L 1 = some (iv i) → 7 - i < (N : Int) → S_ p l e (rmD 0 0 0) s m args below meth c (MQ below (QcI D G A Po) args s 0 0 A) D G A 2 0 0 2 L [] [(h0, ob 8 (uF (uF (uF f 1 (iv a)) 2 (iv w)) 4 (iv x))), (hd, ob 7 (uF (uF fd 0 (iv pl)) 1 (iv mt))), (hF, ar 6 (colR R 3))] := by
    intro N
    induction N with
    | zero =>
      intro i L2 hi hk hL2_0 hL2_1 hN2
      exfalso; omega
    | succ N ih2 =>
      intro i L2 hi hk hL2_0 hL2_1 hN2
      refine S_iload_n X dX9_isWhole_2 rfl hL2_1 ?_
      refine S_aload_n X dX9_isWhole_3 rfl hL2_0 ?_
      refine S_get X fgX9_14_8 0 rfl hf0 dX9_isWhole_4 ?_
      refine S_get (v := iv pl) X fgX9_31_7 1 rfl rfl dX9_isWhole_7 ?_
      refine S_icmp_ge (tgt := 53) X dX9_isWhole_10 (by decide) (by omega) (by omega) (fun c_1 => ?_) (fun c_1 => ?_)
      ·
        refine S_aload_n X dX9_isWhole_53 rfl hL2_0 ?_
        refine S_get X fgX9_14_8 0 rfl hf0 dX9_isWhole_54 ?_
        refine S_get (v := iv pl) X fgX9_31_7 1 rfl rfl dX9_isWhole_57 ?_
        refine S_if_le (tgt := 67) X dX9_isWhole_60 (by decide) (by omega) (fun c_2 => ?_) (fun c_2 => ?_)
        ·
          refine S_iconst X dX9_isWhole_67 ?_
          exact S_zret X (Or.inl rfl) (nle rfl) (nle rfl) dX9_isWhole_68 (hPo _ _ (Or.inl (⟨by first | rfl | omega, rfl, fun h9 => by have := h9.1; dsimp only at this; omega⟩)))
        ·
          refine S_iconst X dX9_isWhole_63 ?_
          refine S_goto (tgt := 68) X dX9_isWhole_64 (by decide) ?_
          exact S_zret X (Or.inr rfl) (nle rfl) (nle rfl) dX9_isWhole_68 (hPo _ _ (Or.inr (⟨by first | rfl | omega, rfl, ⟨by dsimp only; omega, fun j j0 j1 => hk j j0 (by dsimp only at j1; omega)⟩⟩)))
      ·
        refine S_aload_n X dX9_isWhole_13 rfl hL2_0 ?_
        refine S_get X fgX9_14_8 0 rfl hf0 dX9_isWhole_14 ?_
        refine S_get X fgX9_75_7 1 rfl hf1 dX9_isWhole_17 ?_
        refine S_iload_n X dX9_isWhole_20 rfl hL2_1 ?_
        refine S_iald X 2 rfl (by omega) (by omega) (nle rfl) dX9_isWhole_21 ?_
        have hcr : colR R 3 i = R i 3 := rfl
        have hrr := (hR i (by omega) (by omega)).2.2.2.1
        rw [hcr]
        refine S_iload_n X dX9_isWhole_22 rfl hL2_1 ?_
        refine S_icmp_eq (tgt := 45) X dX9_isWhole_23 (by decide) (by omega) (by omega) (fun c_3 => ?_) (fun c_3 => ?_)
        ·
          refine S_iconst X dX9_isWhole_45 ?_
          exact S_zret X (Or.inl rfl) (nle rfl) (nle rfl) dX9_isWhole_46 (hPo _ _ (Or.inl (⟨by first | rfl | omega, rfl, fun h9 => by have := h9.2 i (by omega) (by dsimp only; omega); dsimp only at this; omega⟩)))
        ·
          refine S_aload_n X dX9_isWhole_26 rfl hL2_0 ?_
          refine S_get X fgX9_14_8 0 rfl hf0 dX9_isWhole_27 ?_
          refine S_get X fgX9_75_7 1 rfl hf1 dX9_isWhole_30 ?_
          refine S_iload_n X dX9_isWhole_33 rfl hL2_1 ?_
          refine S_iald X 2 rfl (by omega) (by omega) (nle rfl) dX9_isWhole_34 ?_
          have hcr : colR R 3 i = R i 3 := rfl
          have hrr := (hR i (by omega) (by omega)).2.2.2.1
          rw [hcr]
          refine S_aload_n X dX9_isWhole_35 rfl hL2_0 ?_
          refine S_get X fgX9_14_8 0 rfl hf0 dX9_isWhole_36 ?_
          refine S_get (v := iv pl) X fgX9_31_7 1 rfl rfl dX9_isWhole_39 ?_
          refine S_icmp_lt (tgt := 47) X dX9_isWhole_42 (by decide) (by omega) (by omega) (fun c_4 => ?_) (fun c_4 => ?_)
          ·
            refine S_iinc X dX9_isWhole_47 (nle rfl) hL2_1 ?_
            refine S_goto (tgt := 2) X dX9_isWhole_50 (by decide) ?_
            exact ih2 (i + 1) _ (by omega) (fun j j0 j1 => (Int.lt_or_le j i).elim (hk j j0) (fun q9 => by (obtain rfl : j = i := (by omega)); exact ⟨by assumption, by assumption⟩)) hL2_0 rfl (by omega)
          ·
            refine S_iconst X dX9_isWhole_45 ?_
            exact S_zret X (Or.inl rfl) (nle rfl) (nle rfl) dX9_isWhole_46 (hPo _ _ (Or.inl (⟨by first | rfl | omega, rfl, fun h9 => by have := h9.2 i (by omega) (by dsimp only; omega); dsimp only at this; omega⟩)))
  exact lp2_0 (Int.toNat (7 - 0) + 1) 0 _ (by omega) (fun j _ _ => by omega) rfl rfl (by omega)
end pt_12town
/- 13.tread.lean.txt -/
section pt_13tread

set_option maxHeartbeats 4000000 in
set_option maxRecDepth 100000 in
theorem kX9_readClause (l : Launch) (h0 : Nat) (ht : Nat) (hb : Nat) (f : Nat → AV) (ft : Nat → AV) (T : Int → Int) (n : Int) (a : Int) (w : Int) (x : Int) (hd : Nat) (fd : Nat → AV) (hB : Nat) (hD : Nat) (hK : Nat) (hF : Nat) (hH : Nat) (pl : Int) (mt : Int) (R : Int → Int → Int) (hf0 : f 0 = rv ht) (hf1 : ft 0 = rv hb) (hf2 : ft 1 = iv n) (hf3 : f 3 = rv hd) (hf4 : fd 2 = rv hB) (hf5 : fd 3 = rv hD) (hf6 : fd 4 = rv hK) (hf7 : fd 5 = rv hF) (hf8 : fd 6 = rv hH) (hT : okT T n) (ha : 0 ≤ a ∧ a ≤ n) (hs : okTS (pl, mt, x, R)) : AMi l yX9_readClause cX9_readClause 2 .boolean 4 0 0 [rv h0] [(h0, ob 8 (uF (uF (uF f 1 (iv a)) 2 (iv w)) 4 (iv x))), (ht, ob 6 ft), (hb, ar 160 T), (hd, ob 7 (uF (uF fd 0 (iv pl)) 1 (iv mt))), (hB, ar 6 (colR R 0)), (hD, ar 6 (colR R 1)), (hK, ar 6 (colR R 2)), (hF, ar 6 (colR R 3)), (hH, ar 6 (colR R 4))] (fun z u => (∃ a2 : Int, ∃ fl : Int, ∃ x2 : Int, ∃ pl2 : Int, ∃ mt2 : Int, ∃ R2 : Int → Int → Int, z = 0 ∧ u = [(h0, ob 8 (uF (uF (uF f 1 (iv a2)) 2 (iv fl)) 4 (iv x2))), (ht, ob 6 ft), (hb, ar 160 T), (hd, ob 7 (uF (uF fd 0 (iv pl2)) 1 (iv mt2))), (hB, ar 6 (colR R2 0)), (hD, ar 6 (colR R2 1)), (hK, ar 6 (colR R2 2)), (hF, ar 6 (colR R2 3)), (hH, ar 6 (colR R2 4))] ∧ pCl T n a (pl, mt, x, R) = .inl fl) ∨ (∃ a2 : Int, ∃ x2 : Int, ∃ pl2 : Int, ∃ mt2 : Int, ∃ R2 : Int → Int → Int, z = 1 ∧ u = [(h0, ob 8 (uF (uF (uF f 1 (iv a2)) 2 (iv w)) 4 (iv x2))), (ht, ob 6 ft), (hb, ar 160 T), (hd, ob 7 (uF (uF fd 0 (iv pl2)) 1 (iv mt2))), (hB, ar 6 (colR R2 0)), (hD, ar 6 (colR R2 1)), (hK, ar 6 (colR R2 2)), (hF, ar 6 (colR R2 3)), (hH, ar 6 (colR R2 4))] ∧ pCl T n a (pl, mt, x, R) = .inr (a2, (pl2, mt2, x2, R2)))) := by
  refine AMi.of2 rfl (nle rfl) ?_
  intro D G A p e s m args below meth c Po hPo X
  obtain ⟨hn0, hn1, hT2⟩ := id hT
  have hsk := sk_in (T := T) (n := n) (a := a) (by omega)
  have hch := ch_in (a := sk T n a) hT (by omega)
  obtain ⟨s1, s2, s3, s4⟩ := id hs
  dsimp only at s1 s2 s3
  refine S_aload_n X dX9_readClause_0 rfl rfl ?_
  refine S_calli X (kX5_peek_8 l h0 ht hb f ft T n a w x hf0 hf1 hf2 (by omega) (by omega)) (is := [0, 1, 2]) rfl (run_U X lkX9_27_8 0 rfl rfl (is := [0, 1, 2]) (avs := []) (rest := []) rfl rfl (nle rfl) ⟨nle rfl, nle rfl⟩ ⟨nle rfl, nle rfl⟩ dX9_readClause_1 (by decide) rfl) (fun z_3 u_1 hp_2 => ?_)
  obtain ⟨hz_4, hu_5⟩ := hp_2
  subst hz_4
  subst hu_5
  refine ⟨rfl, ?_⟩
  refine S_w (ws' := [(h0, ob 8 (uF (uF (uF f 1 (iv (sk T n a))) 2 (iv w)) 4 (iv x))), (ht, ob 6 ft), (hb, ar 160 T), (hd, ob 7 (uF (uF fd 0 (iv pl)) 1 (iv mt))), (hB, ar 6 (colR R 0)), (hD, ar 6 (colR R 1)), (hK, ar 6 (colR R 2)), (hF, ar 6 (colR R 3)), (hH, ar 6 (colR R 4))]) rfl ?_
  refine S_istore_n X dX9_readClause_4 rfl (nle rfl) ?_
  refine S_iload_n X dX9_readClause_5 rfl rfl ?_
  refine S_bipush X dX9_readClause_6 rfl ?_
  refine S_icmp_ne (tgt := 46) X dX9_readClause_8 (by decide) (by omega) (by decide) (fun c_6 => ?_) (fun c_6 => ?_)
  ·
    refine S_iload_n X dX9_readClause_46 rfl rfl ?_
    refine S_bipush X dX9_readClause_47 rfl ?_
    refine S_icmp_ne (tgt := 80) X dX9_readClause_49 (by decide) (by omega) (by decide) (fun c_7 => ?_) (fun c_7 => ?_)
    ·
      refine S_aload_n X dX9_readClause_80 rfl rfl ?_
      refine S_calli X (kX5_fail_8 l h0 ht hb f ft T n (sk T n a) w x hf0 hf1 hf2) (is := [0, 1, 2]) rfl (run_U X lkX9_45_8 0 rfl rfl (is := [0, 1, 2]) (avs := []) (rest := []) rfl rfl (nle rfl) ⟨nle rfl, nle rfl⟩ ⟨nle rfl, nle rfl⟩ dX9_readClause_81 (by decide) rfl) (fun z_10 u_8 hp_9 => ?_)
      obtain ⟨hz_11, hu_12⟩ := hp_9
      subst hz_11
      subst hu_12
      refine ⟨rfl, ?_⟩
      refine S_w (ws' := [(h0, ob 8 (uF (uF (uF f 1 (iv (sk T n a))) 2 (iv (sk T n a))) 4 (iv x))), (ht, ob 6 ft), (hb, ar 160 T), (hd, ob 7 (uF (uF fd 0 (iv pl)) 1 (iv mt))), (hB, ar 6 (colR R 0)), (hD, ar 6 (colR R 1)), (hK, ar 6 (colR R 2)), (hF, ar 6 (colR R 3)), (hH, ar 6 (colR R 4))]) rfl ?_
      exact S_zret X (Or.inl rfl) (nle rfl) (nle rfl) dX9_readClause_84 (hPo _ _ (Or.inl ⟨_, _, _, _, _, _, rfl, rfl, pCl_n (by dsimp only; omega) (by dsimp only; omega)⟩))
    ·
      refine S_aload_n X dX9_readClause_52 rfl rfl ?_
      refine S_get (v := iv x) X fgX9_23_8 0 rfl rfl dX9_readClause_53 ?_
      refine S_if_ne (tgt := 80) X dX9_readClause_56 (by decide) (by omega) (fun c_13 => ?_) (fun c_13 => ?_)
      ·
        refine S_aload_n X dX9_readClause_80 rfl rfl ?_
        refine S_calli X (kX5_fail_8 l h0 ht hb f ft T n (sk T n a) w x hf0 hf1 hf2) (is := [0, 1, 2]) rfl (run_U X lkX9_45_8 0 rfl rfl (is := [0, 1, 2]) (avs := []) (rest := []) rfl rfl (nle rfl) ⟨nle rfl, nle rfl⟩ ⟨nle rfl, nle rfl⟩ dX9_readClause_81 (by decide) rfl) (fun z_16 u_14 hp_15 => ?_)
        obtain ⟨hz_17, hu_18⟩ := hp_15
        subst hz_17
        subst hu_18
        refine ⟨rfl, ?_⟩
        refine S_w (ws' := [(h0, ob 8 (uF (uF (uF f 1 (iv (sk T n a))) 2 (iv (sk T n a))) 4 (iv x))), (ht, ob 6 ft), (hb, ar 160 T), (hd, ob 7 (uF (uF fd 0 (iv pl)) 1 (iv mt))), (hB, ar 6 (colR R 0)), (hD, ar 6 (colR R 1)), (hK, ar 6 (colR R 2)), (hF, ar 6 (colR R 3)), (hH, ar 6 (colR R 4))]) rfl ?_
        exact S_zret X (Or.inl rfl) (nle rfl) (nle rfl) dX9_readClause_84 (hPo _ _ (Or.inl ⟨_, _, _, _, _, _, rfl, rfl, pCl_n (by dsimp only; omega) (by dsimp only; omega)⟩))
      ·
        have hlt : sk T n a < n := ch_lt (T := T) (by omega)
        refine S_aload_n X dX9_readClause_59 rfl rfl ?_
        refine S_dup X dX9_readClause_60 ?_
        refine S_get (v := iv (sk T n a)) X fgX9_35_8 0 rfl rfl dX9_readClause_61 ?_
        refine S_iconst X dX9_readClause_64 ?_
        refine S_iadd X dX9_readClause_65 ?_
        refine S_put X fpX9_35_8 0 rfl FT_i dX9_readClause_66 ?_
        refine S_w (ws' := [(h0, ob 8 (uF (uF (uF f 1 (iv ((sk T n a) + 1))) 2 (iv w)) 4 (iv x))), (ht, ob 6 ft), (hb, ar 160 T), (hd, ob 7 (uF (uF fd 0 (iv pl)) 1 (iv mt))), (hB, ar 6 (colR R 0)), (hD, ar 6 (colR R 1)), (hK, ar 6 (colR R 2)), (hF, ar 6 (colR R 3)), (hH, ar 6 (colR R 4))]) (by simp only [List.set]; rw [uF_mv (j := 4) (k := 1) (by decide), uF_mv (j := 2) (k := 1) (by decide), uF_same (k := 1)]) ?_
        refine S_aload_n X dX9_readClause_69 rfl rfl ?_
        refine S_iconst X dX9_readClause_70 ?_
        refine S_put X fpX9_23_8 0 rfl (FT_b (Or.inr rfl)) dX9_readClause_71 ?_
        refine S_w (ws' := [(h0, ob 8 (uF (uF (uF f 1 (iv ((sk T n a) + 1))) 2 (iv w)) 4 (iv 1))), (ht, ob 6 ft), (hb, ar 160 T), (hd, ob 7 (uF (uF fd 0 (iv pl)) 1 (iv mt))), (hB, ar 6 (colR R 0)), (hD, ar 6 (colR R 1)), (hK, ar 6 (colR R 2)), (hF, ar 6 (colR R 3)), (hH, ar 6 (colR R 4))]) (by simp only [List.set]; rw [uF_same (k := 4)]) ?_
        refine S_aload_n X dX9_readClause_74 rfl rfl ?_
        refine S_iconst X dX9_readClause_75 ?_
        refine S_calli X (kX9_readItems_M l h0 ht hb f ft T n ((sk T n a) + 1) w 1 hd fd hB hD hK hF hH pl mt R hf0 hf1 hf2 hf3 hf4 hf5 hf6 hf7 hf8 (by omega) (by omega) (by omega)) (is := [0, 1, 2, 3, 4, 5, 6, 7, 8]) rfl (run_V X lkX9_41 0 rfl rfl (is := [0, 1, 2, 3, 4, 5, 6, 7, 8]) (avs := [iv 0]) (rest := []) rfl rfl (nle rfl) ⟨nle rfl, nle rfl⟩ ⟨nle rfl, nle rfl⟩ dX9_readClause_76 (by decide) rfl) (fun z_21 u_19 hp_20 => ?_)
        rcases hp_20 with ⟨a2_22, fl_23, mt2_24, hz_25, hu_26, hq_27, hr_28⟩ | ⟨a2_29, r2_30, hz_31, hu_32, hq_33⟩
        ·
          subst hz_25
          subst hu_26
          refine ⟨rfl, ?_⟩
          refine S_w (ws' := [(h0, ob 8 (uF (uF (uF f 1 (iv a2_22)) 2 (iv fl_23)) 4 (iv 1))), (ht, ob 6 ft), (hb, ar 160 T), (hd, ob 7 (uF (uF fd 0 (iv pl)) 1 (iv mt2_24))), (hB, ar 6 (colR R 0)), (hD, ar 6 (colR R 1)), (hK, ar 6 (colR R 2)), (hF, ar 6 (colR R 3)), (hH, ar 6 (colR R 4))]) rfl ?_
          exact S_zret X (Or.inl rfl) (nle rfl) (nle rfl) dX9_readClause_79 (hPo _ _ (Or.inl ⟨_, _, _, _, _, _, rfl, rfl, pCl_mf ⟨by assumption, by dsimp only; omega⟩ hq_27⟩))
        ·
          subst hz_31
          subst hu_32
          refine ⟨rfl, ?_⟩
          refine S_w (ws' := [(h0, ob 8 (uF (uF (uF f 1 (iv a2_29)) 2 (iv w)) 4 (iv 1))), (ht, ob 6 ft), (hb, ar 160 T), (hd, ob 7 (uF (uF fd 0 (iv pl)) 1 (iv (r2_30 0)))), (hB, ar 6 (colR R 0)), (hD, ar 6 (colR R 1)), (hK, ar 6 (colR R 2)), (hF, ar 6 (colR R 3)), (hH, ar 6 (colR R 4))]) rfl ?_
          exact S_zret X (Or.inr rfl) (nle rfl) (nle rfl) dX9_readClause_79 (hPo _ _ (Or.inr ⟨_, _, _, _, _, rfl, rfl, pCl_m ⟨by assumption, by dsimp only; omega⟩ hq_33⟩))
  ·
    refine S_aload_n X dX9_readClause_11 rfl rfl ?_
    refine S_get X fgX9_14_8 0 rfl hf3 dX9_readClause_12 ?_
    refine S_get (v := iv pl) X fgX9_31_7 3 rfl rfl dX9_readClause_15 ?_
    refine S_bipush X dX9_readClause_18 rfl ?_
    refine S_icmp_ge (tgt := 46) X dX9_readClause_20 (by decide) (by omega) (by decide) (fun c_34 => ?_) (fun c_34 => ?_)
    ·
      refine S_iload_n X dX9_readClause_46 rfl rfl ?_
      refine S_bipush X dX9_readClause_47 rfl ?_
      refine S_icmp_ne (tgt := 80) X dX9_readClause_49 (by decide) (by omega) (by decide) (fun c_35 => ?_) (fun c_35 => ?_)
      ·
        refine S_aload_n X dX9_readClause_80 rfl rfl ?_
        refine S_calli X (kX5_fail_8 l h0 ht hb f ft T n (sk T n a) w x hf0 hf1 hf2) (is := [0, 1, 2]) rfl (run_U X lkX9_45_8 0 rfl rfl (is := [0, 1, 2]) (avs := []) (rest := []) rfl rfl (nle rfl) ⟨nle rfl, nle rfl⟩ ⟨nle rfl, nle rfl⟩ dX9_readClause_81 (by decide) rfl) (fun z_38 u_36 hp_37 => ?_)
        obtain ⟨hz_39, hu_40⟩ := hp_37
        subst hz_39
        subst hu_40
        refine ⟨rfl, ?_⟩
        refine S_w (ws' := [(h0, ob 8 (uF (uF (uF f 1 (iv (sk T n a))) 2 (iv (sk T n a))) 4 (iv x))), (ht, ob 6 ft), (hb, ar 160 T), (hd, ob 7 (uF (uF fd 0 (iv pl)) 1 (iv mt))), (hB, ar 6 (colR R 0)), (hD, ar 6 (colR R 1)), (hK, ar 6 (colR R 2)), (hF, ar 6 (colR R 3)), (hH, ar 6 (colR R 4))]) rfl ?_
        exact S_zret X (Or.inl rfl) (nle rfl) (nle rfl) dX9_readClause_84 (hPo _ _ (Or.inl ⟨_, _, _, _, _, _, rfl, rfl, pCl_n (by dsimp only; omega) (by dsimp only; omega)⟩))
      ·
        refine S_aload_n X dX9_readClause_52 rfl rfl ?_
        refine S_get (v := iv x) X fgX9_23_8 0 rfl rfl dX9_readClause_53 ?_
        refine S_if_ne (tgt := 80) X dX9_readClause_56 (by decide) (by omega) (fun c_41 => ?_) (fun c_41 => ?_)
        ·
          refine S_aload_n X dX9_readClause_80 rfl rfl ?_
          refine S_calli X (kX5_fail_8 l h0 ht hb f ft T n (sk T n a) w x hf0 hf1 hf2) (is := [0, 1, 2]) rfl (run_U X lkX9_45_8 0 rfl rfl (is := [0, 1, 2]) (avs := []) (rest := []) rfl rfl (nle rfl) ⟨nle rfl, nle rfl⟩ ⟨nle rfl, nle rfl⟩ dX9_readClause_81 (by decide) rfl) (fun z_44 u_42 hp_43 => ?_)
          obtain ⟨hz_45, hu_46⟩ := hp_43
          subst hz_45
          subst hu_46
          refine ⟨rfl, ?_⟩
          refine S_w (ws' := [(h0, ob 8 (uF (uF (uF f 1 (iv (sk T n a))) 2 (iv (sk T n a))) 4 (iv x))), (ht, ob 6 ft), (hb, ar 160 T), (hd, ob 7 (uF (uF fd 0 (iv pl)) 1 (iv mt))), (hB, ar 6 (colR R 0)), (hD, ar 6 (colR R 1)), (hK, ar 6 (colR R 2)), (hF, ar 6 (colR R 3)), (hH, ar 6 (colR R 4))]) rfl ?_
          exact S_zret X (Or.inl rfl) (nle rfl) (nle rfl) dX9_readClause_84 (hPo _ _ (Or.inl ⟨_, _, _, _, _, _, rfl, rfl, pCl_n (by dsimp only; omega) (by dsimp only; omega)⟩))
        ·
          have hlt : sk T n a < n := ch_lt (T := T) (by omega)
          refine S_aload_n X dX9_readClause_59 rfl rfl ?_
          refine S_dup X dX9_readClause_60 ?_
          refine S_get (v := iv (sk T n a)) X fgX9_35_8 0 rfl rfl dX9_readClause_61 ?_
          refine S_iconst X dX9_readClause_64 ?_
          refine S_iadd X dX9_readClause_65 ?_
          refine S_put X fpX9_35_8 0 rfl FT_i dX9_readClause_66 ?_
          refine S_w (ws' := [(h0, ob 8 (uF (uF (uF f 1 (iv ((sk T n a) + 1))) 2 (iv w)) 4 (iv x))), (ht, ob 6 ft), (hb, ar 160 T), (hd, ob 7 (uF (uF fd 0 (iv pl)) 1 (iv mt))), (hB, ar 6 (colR R 0)), (hD, ar 6 (colR R 1)), (hK, ar 6 (colR R 2)), (hF, ar 6 (colR R 3)), (hH, ar 6 (colR R 4))]) (by simp only [List.set]; rw [uF_mv (j := 4) (k := 1) (by decide), uF_mv (j := 2) (k := 1) (by decide), uF_same (k := 1)]) ?_
          refine S_aload_n X dX9_readClause_69 rfl rfl ?_
          refine S_iconst X dX9_readClause_70 ?_
          refine S_put X fpX9_23_8 0 rfl (FT_b (Or.inr rfl)) dX9_readClause_71 ?_
          refine S_w (ws' := [(h0, ob 8 (uF (uF (uF f 1 (iv ((sk T n a) + 1))) 2 (iv w)) 4 (iv 1))), (ht, ob 6 ft), (hb, ar 160 T), (hd, ob 7 (uF (uF fd 0 (iv pl)) 1 (iv mt))), (hB, ar 6 (colR R 0)), (hD, ar 6 (colR R 1)), (hK, ar 6 (colR R 2)), (hF, ar 6 (colR R 3)), (hH, ar 6 (colR R 4))]) (by simp only [List.set]; rw [uF_same (k := 4)]) ?_
          refine S_aload_n X dX9_readClause_74 rfl rfl ?_
          refine S_iconst X dX9_readClause_75 ?_
          refine S_calli X (kX9_readItems_M l h0 ht hb f ft T n ((sk T n a) + 1) w 1 hd fd hB hD hK hF hH pl mt R hf0 hf1 hf2 hf3 hf4 hf5 hf6 hf7 hf8 (by omega) (by omega) (by omega)) (is := [0, 1, 2, 3, 4, 5, 6, 7, 8]) rfl (run_V X lkX9_41 0 rfl rfl (is := [0, 1, 2, 3, 4, 5, 6, 7, 8]) (avs := [iv 0]) (rest := []) rfl rfl (nle rfl) ⟨nle rfl, nle rfl⟩ ⟨nle rfl, nle rfl⟩ dX9_readClause_76 (by decide) rfl) (fun z_49 u_47 hp_48 => ?_)
          rcases hp_48 with ⟨a2_50, fl_51, mt2_52, hz_53, hu_54, hq_55, hr_56⟩ | ⟨a2_57, r2_58, hz_59, hu_60, hq_61⟩
          ·
            subst hz_53
            subst hu_54
            refine ⟨rfl, ?_⟩
            refine S_w (ws' := [(h0, ob 8 (uF (uF (uF f 1 (iv a2_50)) 2 (iv fl_51)) 4 (iv 1))), (ht, ob 6 ft), (hb, ar 160 T), (hd, ob 7 (uF (uF fd 0 (iv pl)) 1 (iv mt2_52))), (hB, ar 6 (colR R 0)), (hD, ar 6 (colR R 1)), (hK, ar 6 (colR R 2)), (hF, ar 6 (colR R 3)), (hH, ar 6 (colR R 4))]) rfl ?_
            exact S_zret X (Or.inl rfl) (nle rfl) (nle rfl) dX9_readClause_79 (hPo _ _ (Or.inl ⟨_, _, _, _, _, _, rfl, rfl, pCl_mf ⟨by assumption, by dsimp only; omega⟩ hq_55⟩))
          ·
            subst hz_59
            subst hu_60
            refine ⟨rfl, ?_⟩
            refine S_w (ws' := [(h0, ob 8 (uF (uF (uF f 1 (iv a2_57)) 2 (iv w)) 4 (iv 1))), (ht, ob 6 ft), (hb, ar 160 T), (hd, ob 7 (uF (uF fd 0 (iv pl)) 1 (iv (r2_58 0)))), (hB, ar 6 (colR R 0)), (hD, ar 6 (colR R 1)), (hK, ar 6 (colR R 2)), (hF, ar 6 (colR R 3)), (hH, ar 6 (colR R 4))]) rfl ?_
            exact S_zret X (Or.inr rfl) (nle rfl) (nle rfl) dX9_readClause_79 (hPo _ _ (Or.inr ⟨_, _, _, _, _, rfl, rfl, pCl_m ⟨by assumption, by dsimp only; omega⟩ hq_61⟩))
    ·
      have hlt : sk T n a < n := ch_lt (T := T) (by omega)
      refine S_aload_n X dX9_readClause_23 rfl rfl ?_
      refine S_dup X dX9_readClause_24 ?_
      refine S_get (v := iv (sk T n a)) X fgX9_35_8 0 rfl rfl dX9_readClause_25 ?_
      refine S_iconst X dX9_readClause_28 ?_
      refine S_iadd X dX9_readClause_29 ?_
      refine S_put X fpX9_35_8 0 rfl FT_i dX9_readClause_30 ?_
      refine S_w (ws' := [(h0, ob 8 (uF (uF (uF f 1 (iv ((sk T n a) + 1))) 2 (iv w)) 4 (iv x))), (ht, ob 6 ft), (hb, ar 160 T), (hd, ob 7 (uF (uF fd 0 (iv pl)) 1 (iv mt))), (hB, ar 6 (colR R 0)), (hD, ar 6 (colR R 1)), (hK, ar 6 (colR R 2)), (hF, ar 6 (colR R 3)), (hH, ar 6 (colR R 4))]) (by simp only [List.set]; rw [uF_mv (j := 4) (k := 1) (by decide), uF_mv (j := 2) (k := 1) (by decide), uF_same (k := 1)]) ?_
      refine S_aload_n X dX9_readClause_33 rfl rfl ?_
      refine S_get X fgX9_14_8 0 rfl hf3 dX9_readClause_34 ?_
      refine S_callv X (kX8_addPlayer l hd fd hB hD hK hF hH pl mt R hf4 hf5 hf6 hf7 hf8 (by omega)) (is := [3, 4, 5, 6, 7, 8]) rfl (run_V X lkX9_38 3 rfl rfl (is := [3, 4, 5, 6, 7, 8]) (avs := []) (rest := []) rfl rfl (nle rfl) ⟨nle rfl, nle rfl⟩ ⟨nle rfl, nle rfl⟩ dX9_readClause_37 (by decide) rfl) (fun u_62 hp_63 => ?_)
      have hu_66 := hp_63
      subst hu_66
      refine ⟨rfl, ?_⟩
      refine S_w (ws' := [(h0, ob 8 (uF (uF (uF f 1 (iv ((sk T n a) + 1))) 2 (iv w)) 4 (iv x))), (ht, ob 6 ft), (hb, ar 160 T), (hd, ob 7 (uF (uF fd 0 (iv (pl + 1))) 1 (iv mt))), (hB, ar 6 (colR (uZ R pl row0) 0)), (hD, ar 6 (colR (uZ R pl row0) 1)), (hK, ar 6 (colR (uZ R pl row0) 2)), (hF, ar 6 (colR (uZ R pl row0) 3)), (hH, ar 6 (colR (uZ R pl row0) 4))]) rfl ?_
      refine S_aload_n X dX9_readClause_40 rfl rfl ?_
      refine S_iconst X dX9_readClause_41 ?_
      refine S_calli X (kX9_readItems_P l h0 ht hb f ft T n ((sk T n a) + 1) w x hd fd hB hD hK hF hH (pl + 1) mt R pl hf0 hf1 hf2 hf3 hf4 hf5 hf6 hf7 hf8 (by omega) (by omega) (by omega)) (is := [0, 1, 2, 3, 4, 5, 6, 7, 8]) rfl (run_V X lkX9_41 0 rfl rfl (is := [0, 1, 2, 3, 4, 5, 6, 7, 8]) (avs := [iv 1]) (rest := []) rfl rfl (nle rfl) ⟨nle rfl, nle rfl⟩ ⟨nle rfl, nle rfl⟩ dX9_readClause_42 (by decide) rfl) (fun z_69 u_67 hp_68 => ?_)
      rcases hp_68 with ⟨a2_70, fl_71, R2_72, hz_73, hu_74, hq_75, hr_76⟩ | ⟨a2_77, r2_78, hz_79, hu_80, hq_81⟩
      ·
        subst hz_73
        subst hu_74
        refine ⟨rfl, ?_⟩
        refine S_w (ws' := [(h0, ob 8 (uF (uF (uF f 1 (iv a2_70)) 2 (iv fl_71)) 4 (iv x))), (ht, ob 6 ft), (hb, ar 160 T), (hd, ob 7 (uF (uF fd 0 (iv (pl + 1))) 1 (iv mt))), (hB, ar 6 (colR R2_72 0)), (hD, ar 6 (colR R2_72 1)), (hK, ar 6 (colR R2_72 2)), (hF, ar 6 (colR R2_72 3)), (hH, ar 6 (colR R2_72 4))]) rfl ?_
        exact S_zret X (Or.inl rfl) (nle rfl) (nle rfl) dX9_readClause_45 (hPo _ _ (Or.inl ⟨_, _, _, _, _, _, rfl, rfl, pCl_pf ⟨by assumption, by dsimp only; omega⟩ hq_75⟩))
      ·
        subst hz_79
        subst hu_80
        refine ⟨rfl, ?_⟩
        refine S_w (ws' := [(h0, ob 8 (uF (uF (uF f 1 (iv a2_77)) 2 (iv w)) 4 (iv x))), (ht, ob 6 ft), (hb, ar 160 T), (hd, ob 7 (uF (uF fd 0 (iv (pl + 1))) 1 (iv mt))), (hB, ar 6 (colR (uZ R pl r2_78) 0)), (hD, ar 6 (colR (uZ R pl r2_78) 1)), (hK, ar 6 (colR (uZ R pl r2_78) 2)), (hF, ar 6 (colR (uZ R pl r2_78) 3)), (hH, ar 6 (colR (uZ R pl r2_78) 4))]) rfl ?_
        exact S_zret X (Or.inr rfl) (nle rfl) (nle rfl) dX9_readClause_45 (hPo _ _ (Or.inr ⟨_, _, _, _, _, rfl, rfl, pCl_p ⟨by assumption, by dsimp only; omega⟩ hq_81⟩))
set_option maxHeartbeats 4000000 in
set_option maxRecDepth 100000 in
theorem kX5_read_8 (l : Launch) (h0 : Nat) (ht : Nat) (hb : Nat) (f : Nat → AV) (ft : Nat → AV) (T : Int → Int) (n : Int) (a : Int) (w : Int) (x : Int) (hd : Nat) (fd : Nat → AV) (hB : Nat) (hD : Nat) (hK : Nat) (hF : Nat) (hH : Nat) (pl : Int) (mt : Int) (R : Int → Int → Int) (hf0 : f 0 = rv ht) (hf1 : ft 0 = rv hb) (hf2 : ft 1 = iv n) (hf3 : f 3 = rv hd) (hf4 : fd 2 = rv hB) (hf5 : fd 3 = rv hD) (hf6 : fd 4 = rv hK) (hf7 : fd 5 = rv hF) (hf8 : fd 6 = rv hH) (hT : okT T n) : AMi l yX5_read cX5_read 3 .int 5 0 0 [rv h0] [(h0, ob 8 (uF (uF (uF f 1 (iv a)) 2 (iv w)) 4 (iv x))), (ht, ob 6 ft), (hb, ar 160 T), (hd, ob 7 (uF (uF fd 0 (iv pl)) 1 (iv mt))), (hB, ar 6 (colR R 0)), (hD, ar 6 (colR R 1)), (hK, ar 6 (colR R 2)), (hF, ar 6 (colR R 3)), (hH, ar 6 (colR R 4))] (fun z u => (∃ a2 : Int, ∃ fl : Int, ∃ x2 : Int, ∃ pl2 : Int, ∃ mt2 : Int, ∃ R2 : Int → Int → Int, z = fl ∧ u = [(h0, ob 8 (uF (uF (uF f 1 (iv a2)) 2 (iv fl)) 4 (iv x2))), (ht, ob 6 ft), (hb, ar 160 T), (hd, ob 7 (uF (uF fd 0 (iv pl2)) 1 (iv mt2))), (hB, ar 6 (colR R2 0)), (hD, ar 6 (colR R2 1)), (hK, ar 6 (colR R2 2)), (hF, ar 6 (colR R2 3)), (hH, ar 6 (colR R2 4))] ∧ tnRes T n R = .inl fl ∧ (0 ≤ fl ∧ fl ≤ 160)) ∨ (∃ a2 : Int, ∃ x2 : Int, ∃ pl2 : Int, ∃ mt2 : Int, ∃ R2 : Int → Int → Int, z = -1 ∧ u = [(h0, ob 8 (uF (uF (uF f 1 (iv a2)) 2 (iv (-1))) 4 (iv x2))), (ht, ob 6 ft), (hb, ar 160 T), (hd, ob 7 (uF (uF fd 0 (iv pl2)) 1 (iv mt2))), (hB, ar 6 (colR R2 0)), (hD, ar 6 (colR R2 1)), (hK, ar 6 (colR R2 2)), (hF, ar 6 (colR R2 3)), (hH, ar 6 (colR R2 4))] ∧ tnRes T n R = .inr (pl2, mt2, x2, R2) ∧ okTS (pl2, mt2, x2, R2))) := by
  refine AMi.of2 rfl (nle rfl) ?_
  intro D G A p e s m args below meth c Po hPo X
  obtain ⟨hn0, hn1, hT2⟩ := id hT
  refine S_aload_n X dX5_read_0 rfl rfl ?_
  refine S_iconst X dX5_read_1 ?_
  refine S_put X fpX5_15_8 0 rfl FT_i dX5_read_2 ?_
  refine S_w (ws' := [(h0, ob 8 (uF (uF (uF f 1 (iv 0)) 2 (iv w)) 4 (iv x))), (ht, ob 6 ft), (hb, ar 160 T), (hd, ob 7 (uF (uF fd 0 (iv pl)) 1 (iv mt))), (hB, ar 6 (colR R 0)), (hD, ar 6 (colR R 1)), (hK, ar 6 (colR R 2)), (hF, ar 6 (colR R 3)), (hH, ar 6 (colR R 4))]) (by simp only [List.set]; rw [uF_mv (j := 4) (k := 1) (by decide), uF_mv (j := 2) (k := 1) (by decide), uF_same (k := 1)]) ?_
  refine S_aload_n X dX5_read_5 rfl rfl ?_
  refine S_iconst X dX5_read_6 ?_
  refine S_put X fpX5_19_8 0 rfl FT_i dX5_read_7 ?_
  refine S_w (ws' := [(h0, ob 8 (uF (uF (uF f 1 (iv 0)) 2 (iv (-1))) 4 (iv x))), (ht, ob 6 ft), (hb, ar 160 T), (hd, ob 7 (uF (uF fd 0 (iv pl)) 1 (iv mt))), (hB, ar 6 (colR R 0)), (hD, ar 6 (colR R 1)), (hK, ar 6 (colR R 2)), (hF, ar 6 (colR R 3)), (hH, ar 6 (colR R 4))]) (by simp only [List.set]; rw [uF_mv (j := 4) (k := 2) (by decide), uF_same (k := 2)]) ?_
  refine S_aload_n X dX5_read_10 rfl rfl ?_
  refine S_callv X (kX9_clear l h0 f 0 (-1) x hd fd pl mt hf3) (is := [0, 3]) rfl (run_A X lkX5_22_8 0 rfl rfl (is := [0, 3]) (avs := []) (rest := []) rfl rfl (nle rfl) ⟨nle rfl, nle rfl⟩ ⟨nle rfl, nle rfl⟩ dX5_read_11 (by decide) rfl) (fun u_1 hp_2 => ?_)
  have hu_5 := hp_2
  subst hu_5
  refine ⟨rfl, ?_⟩
  refine S_w (ws' := [(h0, ob 8 (uF (uF (uF f 1 (iv 0)) 2 (iv (-1))) 4 (iv 0))), (ht, ob 6 ft), (hb, ar 160 T), (hd, ob 7 (uF (uF fd 0 (iv 0)) 1 (iv 60))), (hB, ar 6 (colR R 0)), (hD, ar 6 (colR R 1)), (hK, ar 6 (colR R 2)), (hF, ar 6 (colR R 3)), (hH, ar 6 (colR R 4))]) rfl ?_
  refine S_iconst X dX5_read_14 ?_
  refine S_istore_n X dX5_read_15 rfl (nle rfl) ?_
  refine S_iconst X dX5_read_16 ?_
  refine S_istore_n X dX5_read_17 rfl (nle rfl) ?_
  refine S_iload_n X dX5_read_18 rfl rfl ?_
  refine S_if_eq (tgt := 55) X dX5_read_19 (by decide) (by decide) (fun h9 => absurd h9 (by decide)) (fun _ => ?_)
  have lp22_0 : ∀ (N : Nat) (i : Int) (a1 : Int) (x1 : Int) (pl1 : Int) (mt1 : Int) (R1 : Int → Int → Int) (L : Nat → Option AV), 0 ≤ i ∧ i ≤ 161 ∧ 0 ≤ a1 ∧ a1 ≤ n → okTS (pl1, mt1, x1, R1) → (∀ z9, pTnL T n (161 - i.toNat) a1 (pl1, mt1, x1, R1) = z9 → pTnL T n 161 0 (0, 60, 0, R) = z9) → L 0 = some (rv h0) → L 1 = some (iv 1) → L 2 = some (iv i) → 162 - i < (N : Int) → S_ p l e (rmD 5 0 0) s m args below meth c (MQ below (QcI D G A Po) args s 0 0 A) D G A 3 0 0 22 L [] [(h0, ob 8 (uF (uF (uF f 1 (iv a1)) 2 (iv (-1))) 4 (iv x1))), (ht, ob 6 ft), (hb, ar 160 T), (hd, ob 7 (uF (uF fd 0 (iv pl1)) 1 (iv mt1))), (hB, ar 6 (colR R1 0)), (hD, ar 6 (colR R1 1)), (hK, ar 6 (colR R1 2)), (hF, ar 6 (colR R1 3)), (hH, ar 6 (colR R1 4))] := by
    intro N
    induction N with
    | zero =>
      intro i a1 x1 pl1 mt1 R1 L22 hi hs hk hL22_0 hL22_1 hL22_2 hN22
      exfalso; omega
    | succ N ih22 =>
      intro i a1 x1 pl1 mt1 R1 L22 hi hs hk hL22_0 hL22_1 hL22_2 hN22
      refine S_iload_n X dX5_read_22 rfl hL22_2 ?_
      refine S_sipush X dX5_read_23 rfl ?_
      refine S_icmp_gt (tgt := 55) X dX5_read_26 (by decide) (by omega) (by decide) (fun c_7 => ?_) (fun c_7 => ?_)
      ·
        refine S_aload_n X dX5_read_55 rfl hL22_0 ?_
        refine S_get (v := iv (-1)) X fgX5_19_8 0 rfl rfl dX5_read_56 ?_
        refine S_iconst X dX5_read_59 ?_
        refine S_icmp_ne (tgt := 81) X dX5_read_60 (by decide) (by decide) (by decide) (fun h9 => absurd h9 (by decide)) (fun _ => ?_)
        have hs9 := hs
        have hs9a := hs9.1
        have hs9b := hs9.2.2.2
        dsimp only at hs9a hs9b
        refine S_aload_n X dX5_read_63 rfl hL22_0 ?_
        refine S_calli X (kX9_isWhole l h0 f a1 (-1) x1 hd fd hF pl1 mt1 R1 hf3 hf7 (by omega) hs9b) (is := [0, 3, 7]) rfl (run_A X lkX5_34_8 0 rfl rfl (is := [0, 3, 7]) (avs := []) (rest := []) rfl rfl (nle rfl) ⟨nle rfl, nle rfl⟩ ⟨nle rfl, nle rfl⟩ dX5_read_64 (by decide) rfl) (fun z_11 u_9 hp_10 => ?_)
        rcases hp_10 with ⟨hz_12, hu_13, hq_14⟩ | ⟨hz_15, hu_16, hq_17⟩
        ·
          subst hz_12
          subst hu_13
          refine ⟨rfl, ?_⟩
          refine S_w (ws' := [(h0, ob 8 (uF (uF (uF f 1 (iv a1)) 2 (iv (-1))) 4 (iv x1))), (ht, ob 6 ft), (hb, ar 160 T), (hd, ob 7 (uF (uF fd 0 (iv pl1)) 1 (iv mt1))), (hB, ar 6 (colR R1 0)), (hD, ar 6 (colR R1 1)), (hK, ar 6 (colR R1 2)), (hF, ar 6 (colR R1 3)), (hH, ar 6 (colR R1 4))]) rfl ?_
          refine S_if_ne (tgt := 81) X dX5_read_67 (by decide) (by decide) (fun h9 => absurd h9 (by decide)) (fun _ => ?_)
          refine S_aload_n X dX5_read_70 rfl hL22_0 ?_
          refine S_aload_n X dX5_read_71 rfl hL22_0 ?_
          refine S_get X fgX5_9_8 0 rfl hf0 dX5_read_72 ?_
          refine S_get X fgX5_37_6 1 rfl hf2 dX5_read_75 ?_
          refine S_put X fpX5_19_8 0 rfl FT_i dX5_read_78 ?_
          refine S_w (ws' := [(h0, ob 8 (uF (uF (uF f 1 (iv a1)) 2 (iv n)) 4 (iv x1))), (ht, ob 6 ft), (hb, ar 160 T), (hd, ob 7 (uF (uF fd 0 (iv pl1)) 1 (iv mt1))), (hB, ar 6 (colR R1 0)), (hD, ar 6 (colR R1 1)), (hK, ar 6 (colR R1 2)), (hF, ar 6 (colR R1 3)), (hH, ar 6 (colR R1 4))]) (by simp only [List.set]; rw [uF_mv (j := 4) (k := 2) (by decide), uF_same (k := 2)]) ?_
          refine S_aload_n X dX5_read_81 rfl hL22_0 ?_
          refine S_get (v := iv n) X fgX5_19_8 0 rfl rfl dX5_read_82 ?_
          exact S_iret X (nle rfl) (nle rfl) dX5_read_85 (hPo _ _ (Or.inl ⟨_, _, _, _, _, _, rfl, rfl, tnRes_n (hk _ (show pTnL T n (161 - i.toNat) a1 (pl1, mt1, x1, R1) = .inr (a1, (pl1, mt1, x1, R1)) by rw [show 161 - i.toNat = 0 by omega]; rfl)) hq_14, by omega⟩))
        ·
          subst hz_15
          subst hu_16
          refine ⟨rfl, ?_⟩
          refine S_w (ws' := [(h0, ob 8 (uF (uF (uF f 1 (iv a1)) 2 (iv (-1))) 4 (iv x1))), (ht, ob 6 ft), (hb, ar 160 T), (hd, ob 7 (uF (uF fd 0 (iv pl1)) 1 (iv mt1))), (hB, ar 6 (colR R1 0)), (hD, ar 6 (colR R1 1)), (hK, ar 6 (colR R1 2)), (hF, ar 6 (colR R1 3)), (hH, ar 6 (colR R1 4))]) rfl ?_
          refine S_if_ne (tgt := 81) X dX5_read_67 (by decide) (by decide) (fun _ => ?_) (fun h9 => absurd h9 (by decide))
          refine S_aload_n X dX5_read_81 rfl hL22_0 ?_
          refine S_get (v := iv (-1)) X fgX5_19_8 0 rfl rfl dX5_read_82 ?_
          exact S_iret X (nle rfl) (nle rfl) dX5_read_85 (hPo _ _ (Or.inr ⟨_, _, _, _, _, rfl, rfl, tnRes_y (hk _ (show pTnL T n (161 - i.toNat) a1 (pl1, mt1, x1, R1) = .inr (a1, (pl1, mt1, x1, R1)) by rw [show 161 - i.toNat = 0 by omega]; rfl)) hq_17, hs⟩))
      ·
        refine S_aload_n X dX5_read_29 rfl hL22_0 ?_
        refine S_calli X (kX9_readClause l h0 ht hb f ft T n a1 (-1) x1 hd fd hB hD hK hF hH pl1 mt1 R1 hf0 hf1 hf2 hf3 hf4 hf5 hf6 hf7 hf8 (by omega) (by omega) hs) (is := [0, 1, 2, 3, 4, 5, 6, 7, 8]) rfl (run_A X lkX5_27_8 0 rfl rfl (is := [0, 1, 2, 3, 4, 5, 6, 7, 8]) (avs := []) (rest := []) rfl rfl (nle rfl) ⟨nle rfl, nle rfl⟩ ⟨nle rfl, nle rfl⟩ dX5_read_30 (by decide) rfl) (fun z_22 u_20 hp_21 => ?_)
        rcases hp_21 with ⟨a2_23, fl_24, x2_25, pl2_26, mt2_27, R2_28, hz_29, hu_30, hq_31⟩ | ⟨a2_32, x2_33, pl2_34, mt2_35, R2_36, hz_37, hu_38, hq_39⟩
        ·
          subst hz_29
          subst hu_30
          refine ⟨rfl, ?_⟩
          refine S_w (ws' := [(h0, ob 8 (uF (uF (uF f 1 (iv a2_23)) 2 (iv fl_24)) 4 (iv x2_25))), (ht, ob 6 ft), (hb, ar 160 T), (hd, ob 7 (uF (uF fd 0 (iv pl2_26)) 1 (iv mt2_27))), (hB, ar 6 (colR R2_28 0)), (hD, ar 6 (colR R2_28 1)), (hK, ar 6 (colR R2_28 2)), (hF, ar 6 (colR R2_28 3)), (hH, ar 6 (colR R2_28 4))]) rfl ?_
          have hin := (pCl_in hn1 hi.2.2.1 hi.2.2.2 hs).1 _ hq_31
          refine S_if_eq (tgt := 47) X dX5_read_33 (by decide) (by decide) (fun _ => ?_) (fun h9 => absurd h9 (by decide))
          refine S_iconst X dX5_read_47 ?_
          refine S_istore_n X dX5_read_48 rfl (nle rfl) ?_
          refine S_iinc X dX5_read_49 (nle rfl) hL22_2 ?_
          refine S_goto (tgt := 18) X dX5_read_52 (by decide) ?_
          refine S_iload_n X dX5_read_18 rfl rfl ?_
          refine S_if_eq (tgt := 55) X dX5_read_19 (by decide) (by decide) (fun _ => ?_) (fun h9 => absurd h9 (by decide))
          refine S_aload_n X dX5_read_55 rfl hL22_0 ?_
          refine S_get (v := iv fl_24) X fgX5_19_8 0 rfl rfl dX5_read_56 ?_
          refine S_iconst X dX5_read_59 ?_
          refine S_icmp_ne (tgt := 81) X dX5_read_60 (by decide) (by omega) (by decide) (fun c_42 => ?_) (fun c_42 => by exfalso; omega)
          refine S_aload_n X dX5_read_81 rfl hL22_0 ?_
          refine S_get (v := iv fl_24) X fgX5_19_8 0 rfl rfl dX5_read_82 ?_
          exact S_iret X (nle rfl) (nle rfl) dX5_read_85 (hPo _ _ (Or.inl ⟨_, _, _, _, _, _, rfl, rfl, tnRes_f (hk _ (by rw [fuel161 (by omega) (by omega)]; exact pTnL_f hq_31)), by omega⟩))
        ·
          subst hz_37
          subst hu_38
          refine ⟨rfl, ?_⟩
          refine S_w (ws' := [(h0, ob 8 (uF (uF (uF f 1 (iv a2_32)) 2 (iv (-1))) 4 (iv x2_33))), (ht, ob 6 ft), (hb, ar 160 T), (hd, ob 7 (uF (uF fd 0 (iv pl2_34)) 1 (iv mt2_35))), (hB, ar 6 (colR R2_36 0)), (hD, ar 6 (colR R2_36 1)), (hK, ar 6 (colR R2_36 2)), (hF, ar 6 (colR R2_36 3)), (hH, ar 6 (colR R2_36 4))]) rfl ?_
          have hin := (pCl_in hn1 hi.2.2.1 hi.2.2.2 hs).2 _ hq_39
          have hs2 := hin.2.2
          dsimp only at hin hs2
          have hsk := sk_in (T := T) (n := n) hin.2.1
          refine S_if_eq (tgt := 47) X dX5_read_33 (by decide) (by decide) (fun h9 => absurd h9 (by decide)) (fun _ => ?_)
          refine S_aload_n X dX5_read_36 rfl hL22_0 ?_
          refine S_calli X (kX5_nextClause_8 l h0 ht hb f ft T n a2_32 (-1) x2_33 hf0 hf1 hf2 (by omega) (by omega)) (is := [0, 1, 2]) rfl (run_U X lkX5_31_8 0 rfl rfl (is := [0, 1, 2]) (avs := []) (rest := []) rfl rfl (nle rfl) ⟨nle rfl, nle rfl⟩ ⟨nle rfl, nle rfl⟩ dX5_read_37 (by decide) rfl) (fun z_46 u_44 hp_45 => ?_)
          rcases hp_45 with ⟨hz_47, hu_48, hq_49⟩ | ⟨a2_50, fl_51, hz_52, hu_53, hq_54, hr_55, hs_56⟩ | ⟨a2_57, hz_58, hu_59, hq_60, hr_61⟩
          ·
            subst hz_47
            subst hu_48
            refine ⟨rfl, ?_⟩
            refine S_w (ws' := [(h0, ob 8 (uF (uF (uF f 1 (iv (sk T n a2_32))) 2 (iv (-1))) 4 (iv x2_33))), (ht, ob 6 ft), (hb, ar 160 T), (hd, ob 7 (uF (uF fd 0 (iv pl2_34)) 1 (iv mt2_35))), (hB, ar 6 (colR R2_36 0)), (hD, ar 6 (colR R2_36 1)), (hK, ar 6 (colR R2_36 2)), (hF, ar 6 (colR R2_36 3)), (hH, ar 6 (colR R2_36 4))]) rfl ?_
            refine S_if_eq (tgt := 47) X dX5_read_40 (by decide) (by decide) (fun _ => ?_) (fun h9 => absurd h9 (by decide))
            refine S_iconst X dX5_read_47 ?_
            refine S_istore_n X dX5_read_48 rfl (nle rfl) ?_
            refine S_iinc X dX5_read_49 (nle rfl) hL22_2 ?_
            refine S_goto (tgt := 18) X dX5_read_52 (by decide) ?_
            refine S_iload_n X dX5_read_18 rfl rfl ?_
            refine S_if_eq (tgt := 55) X dX5_read_19 (by decide) (by decide) (fun _ => ?_) (fun h9 => absurd h9 (by decide))
            refine S_aload_n X dX5_read_55 rfl hL22_0 ?_
            refine S_get (v := iv (-1)) X fgX5_19_8 0 rfl rfl dX5_read_56 ?_
            refine S_iconst X dX5_read_59 ?_
            refine S_icmp_ne (tgt := 81) X dX5_read_60 (by decide) (by decide) (by decide) (fun h9 => absurd h9 (by decide)) (fun _ => ?_)
            have hs9 := hs2
            have hs9a := hs9.1
            have hs9b := hs9.2.2.2
            dsimp only at hs9a hs9b
            refine S_aload_n X dX5_read_63 rfl hL22_0 ?_
            refine S_calli X (kX9_isWhole l h0 f (sk T n a2_32) (-1) x2_33 hd fd hF pl2_34 mt2_35 R2_36 hf3 hf7 (by omega) hs9b) (is := [0, 3, 7]) rfl (run_A X lkX5_34_8 0 rfl rfl (is := [0, 3, 7]) (avs := []) (rest := []) rfl rfl (nle rfl) ⟨nle rfl, nle rfl⟩ ⟨nle rfl, nle rfl⟩ dX5_read_64 (by decide) rfl) (fun z_67 u_65 hp_66 => ?_)
            rcases hp_66 with ⟨hz_68, hu_69, hq_70⟩ | ⟨hz_71, hu_72, hq_73⟩
            ·
              subst hz_68
              subst hu_69
              refine ⟨rfl, ?_⟩
              refine S_w (ws' := [(h0, ob 8 (uF (uF (uF f 1 (iv (sk T n a2_32))) 2 (iv (-1))) 4 (iv x2_33))), (ht, ob 6 ft), (hb, ar 160 T), (hd, ob 7 (uF (uF fd 0 (iv pl2_34)) 1 (iv mt2_35))), (hB, ar 6 (colR R2_36 0)), (hD, ar 6 (colR R2_36 1)), (hK, ar 6 (colR R2_36 2)), (hF, ar 6 (colR R2_36 3)), (hH, ar 6 (colR R2_36 4))]) rfl ?_
              refine S_if_ne (tgt := 81) X dX5_read_67 (by decide) (by decide) (fun h9 => absurd h9 (by decide)) (fun _ => ?_)
              refine S_aload_n X dX5_read_70 rfl hL22_0 ?_
              refine S_aload_n X dX5_read_71 rfl hL22_0 ?_
              refine S_get X fgX5_9_8 0 rfl hf0 dX5_read_72 ?_
              refine S_get X fgX5_37_6 1 rfl hf2 dX5_read_75 ?_
              refine S_put X fpX5_19_8 0 rfl FT_i dX5_read_78 ?_
              refine S_w (ws' := [(h0, ob 8 (uF (uF (uF f 1 (iv (sk T n a2_32))) 2 (iv n)) 4 (iv x2_33))), (ht, ob 6 ft), (hb, ar 160 T), (hd, ob 7 (uF (uF fd 0 (iv pl2_34)) 1 (iv mt2_35))), (hB, ar 6 (colR R2_36 0)), (hD, ar 6 (colR R2_36 1)), (hK, ar 6 (colR R2_36 2)), (hF, ar 6 (colR R2_36 3)), (hH, ar 6 (colR R2_36 4))]) (by simp only [List.set]; rw [uF_mv (j := 4) (k := 2) (by decide), uF_same (k := 2)]) ?_
              refine S_aload_n X dX5_read_81 rfl hL22_0 ?_
              refine S_get (v := iv n) X fgX5_19_8 0 rfl rfl dX5_read_82 ?_
              exact S_iret X (nle rfl) (nle rfl) dX5_read_85 (hPo _ _ (Or.inl ⟨_, _, _, _, _, _, rfl, rfl, tnRes_n (hk _ (by rw [fuel161 (by omega) (by omega)]; exact pTnL_e hq_39 hq_49)) hq_70, by omega⟩))
            ·
              subst hz_71
              subst hu_72
              refine ⟨rfl, ?_⟩
              refine S_w (ws' := [(h0, ob 8 (uF (uF (uF f 1 (iv (sk T n a2_32))) 2 (iv (-1))) 4 (iv x2_33))), (ht, ob 6 ft), (hb, ar 160 T), (hd, ob 7 (uF (uF fd 0 (iv pl2_34)) 1 (iv mt2_35))), (hB, ar 6 (colR R2_36 0)), (hD, ar 6 (colR R2_36 1)), (hK, ar 6 (colR R2_36 2)), (hF, ar 6 (colR R2_36 3)), (hH, ar 6 (colR R2_36 4))]) rfl ?_
              refine S_if_ne (tgt := 81) X dX5_read_67 (by decide) (by decide) (fun _ => ?_) (fun h9 => absurd h9 (by decide))
              refine S_aload_n X dX5_read_81 rfl hL22_0 ?_
              refine S_get (v := iv (-1)) X fgX5_19_8 0 rfl rfl dX5_read_82 ?_
              exact S_iret X (nle rfl) (nle rfl) dX5_read_85 (hPo _ _ (Or.inr ⟨_, _, _, _, _, rfl, rfl, tnRes_y (hk _ (by rw [fuel161 (by omega) (by omega)]; exact pTnL_e hq_39 hq_49)) hq_73, hs2⟩))
          ·
            subst hz_52
            subst hu_53
            refine ⟨rfl, ?_⟩
            refine S_w (ws' := [(h0, ob 8 (uF (uF (uF f 1 (iv a2_50)) 2 (iv fl_51)) 4 (iv x2_33))), (ht, ob 6 ft), (hb, ar 160 T), (hd, ob 7 (uF (uF fd 0 (iv pl2_34)) 1 (iv mt2_35))), (hB, ar 6 (colR R2_36 0)), (hD, ar 6 (colR R2_36 1)), (hK, ar 6 (colR R2_36 2)), (hF, ar 6 (colR R2_36 3)), (hH, ar 6 (colR R2_36 4))]) rfl ?_
            refine S_if_eq (tgt := 47) X dX5_read_40 (by decide) (by decide) (fun _ => ?_) (fun h9 => absurd h9 (by decide))
            refine S_iconst X dX5_read_47 ?_
            refine S_istore_n X dX5_read_48 rfl (nle rfl) ?_
            refine S_iinc X dX5_read_49 (nle rfl) hL22_2 ?_
            refine S_goto (tgt := 18) X dX5_read_52 (by decide) ?_
            refine S_iload_n X dX5_read_18 rfl rfl ?_
            refine S_if_eq (tgt := 55) X dX5_read_19 (by decide) (by decide) (fun _ => ?_) (fun h9 => absurd h9 (by decide))
            refine S_aload_n X dX5_read_55 rfl hL22_0 ?_
            refine S_get (v := iv fl_51) X fgX5_19_8 0 rfl rfl dX5_read_56 ?_
            refine S_iconst X dX5_read_59 ?_
            refine S_icmp_ne (tgt := 81) X dX5_read_60 (by decide) (by omega) (by decide) (fun c_78 => ?_) (fun c_78 => by exfalso; omega)
            refine S_aload_n X dX5_read_81 rfl hL22_0 ?_
            refine S_get (v := iv fl_51) X fgX5_19_8 0 rfl rfl dX5_read_82 ?_
            exact S_iret X (nle rfl) (nle rfl) dX5_read_85 (hPo _ _ (Or.inl ⟨_, _, _, _, _, _, rfl, rfl, by rw [hs_56]; exact tnRes_f (hk _ (by rw [fuel161 (by omega) (by omega)]; exact pTnL_n hq_39 hq_54.1 hq_54.2)), by omega⟩))
          ·
            subst hz_58
            subst hu_59
            refine ⟨rfl, ?_⟩
            refine S_w (ws' := [(h0, ob 8 (uF (uF (uF f 1 (iv a2_57)) 2 (iv (-1))) 4 (iv x2_33))), (ht, ob 6 ft), (hb, ar 160 T), (hd, ob 7 (uF (uF fd 0 (iv pl2_34)) 1 (iv mt2_35))), (hB, ar 6 (colR R2_36 0)), (hD, ar 6 (colR R2_36 1)), (hK, ar 6 (colR R2_36 2)), (hF, ar 6 (colR R2_36 3)), (hH, ar 6 (colR R2_36 4))]) rfl ?_
            have hlt : sk T n a2_32 < n := ch_lt (T := T) (by omega)
            refine S_if_eq (tgt := 47) X dX5_read_40 (by decide) (by decide) (fun h9 => absurd h9 (by decide)) (fun _ => ?_)
            refine S_iconst X dX5_read_43 ?_
            refine S_goto (tgt := 48) X dX5_read_44 (by decide) ?_
            refine S_istore_n X dX5_read_48 rfl (nle rfl) ?_
            refine S_iinc X dX5_read_49 (nle rfl) hL22_2 ?_
            refine S_goto (tgt := 18) X dX5_read_52 (by decide) ?_
            refine S_iload_n X dX5_read_18 rfl rfl ?_
            refine S_if_eq (tgt := 55) X dX5_read_19 (by decide) (by decide) (fun h9 => absurd h9 (by decide)) (fun _ => ?_)
            exact ih22 (i + 1) a2_57 x2_33 pl2_34 mt2_35 R2_36 _ (by omega) (hs2) (fun z9 h9 => hk z9 (by rw [fuel161 (by omega) (by omega), pTnL_g hq_39 (by dsimp only; omega) hq_60]; rw [hr_61] at h9; exact h9)) hL22_0 rfl rfl (by omega)
  exact lp22_0 (Int.toNat (162 - 0) + 1) 0 0 0 0 60 R _ (by omega) (⟨by dsimp only; omega, by dsimp only; omega, Or.inl rfl, fun j j0 j1 => absurd j1 (by dsimp only; omega)⟩) (fun _ h9 => h9) rfl rfl rfl (by omega)
end pt_13tread
