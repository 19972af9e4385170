/-! MORE ROWS: bits, switches, null, static tables, ends with references, small laws for the walks -/
theorem nle {a b : Nat} (h : Nat.ble a b = true) : a ≤ b := Nat.le_of_ble_eq_true h
theorem uF_same {α : Type} {f : Nat → α} {k : Nat} {a b : α} : uF (uF f k a) k b = uF f k b := by
  funext j
  unfold uF
  split <;> rfl
theorem uF_mv {α : Type} {f : Nat → α} {j k : Nat} {a b : α} (h : j ≠ k) : uF (uF f j a) k b = uF (uF f k b) j a := by
  funext i
  unfold uF
  by_cases h1 : i = k
  · have h2 : ¬ i = j := fun e => h (e.symm.trans h1)
    rw [if_pos h1, if_neg h2, if_pos h1]
  · rw [if_neg h1]
    by_cases h2 : i = j
    · rw [if_pos h2, if_pos h2]
    · rw [if_neg h2, if_neg h2, if_neg h1]
theorem uZ_at {α : Type} {f : Int → α} {k : Int} {v : α} : uZ f k v k = v := by unfold uZ; rw [if_pos rfl]
theorem uZ_ne {α : Type} {f : Int → α} {k j : Int} {v : α} (h : j ≠ k) : uZ f k v j = f j := by unfold uZ; rw [if_neg h]
theorem uZ_all {α : Type} {P : α → Prop} {f : Int → α} {k : Int} {v : α} (hf : ∀ j, P (f j)) (hv : P v) : ∀ j, P (uZ f k v j) := by
  intro j
  unfold uZ
  split
  · exact hv
  · exact hf j
theorem FT_i {z : Int} : FT .int (iv z) := ⟨z, rfl⟩
theorem FT_b {z : Int} (h : z = 0 ∨ z = 1) : FT .boolean (iv z) := h.elim (fun e => Or.inl (by rw [e])) (fun e => Or.inr (by rw [e]))
theorem FT_o {C : String} {r : Option Nat} : FT (.object C) (.inr r) := ⟨r, rfl⟩
theorem FT_a {t : FieldType} {r : Option Nat} : FT (.array t) (.inr r) := ⟨r, rfl⟩
def zShr (a b : Int) : Int := (i32 a >>> (i32 b &&& 31)).toInt
def zShl (a b : Int) : Int := (i32 a <<< (i32 b &&& 31)).toInt
def zUshr (a b : Int) : Int := ((i32 a).toUInt32 >>> ((i32 b).toUInt32 &&& Int32.toUInt32 31)).toInt32.toInt
def zAnd (a b : Int) : Int := (i32 a &&& i32 b).toInt
def zOr (a b : Int) : Int := (i32 a ||| i32 b).toInt
def zXor (a b : Int) : Int := (i32 a ^^^ i32 b).toInt
theorem zShr_r (a b : Int) : inR (zShr a b) := toInt_inR _
theorem zShl_r (a b : Int) : inR (zShl a b) := toInt_inR _
theorem zUshr_r (a b : Int) : inR (zUshr a b) := toInt_inR _
theorem zAnd_r (a b : Int) : inR (zAnd a b) := toInt_inR _
theorem zOr_r (a b : Int) : inR (zOr a b) := toInt_inR _
theorem zXor_r (a b : Int) : inR (zXor a b) := toInt_inR _
section S2
variable {l : Launch} {y : MethodName} {b : ByteArray} {n d mc ms : Nat} {av : List AV} {ws : EW}
theorem AMi.of2 {ret : FieldType} {Post : Int → EW → Prop} (hy : plainName y.cls = true) (hn : av.length ≤ n)
    (body : ∀ (D : va_G) (G : GG) (A : Nat → Prop) (p : Program) (e : Env) (s : State) (m : MethodId) (args : Array Value) (below : List Frame) (meth : Method) (c : Code) (Po : Int → EW → Prop), (∀ z u, Post z u → Po z u) → Cx p s m args meth c D G A b n (some ret) y.cls →
      S_ p l e (rmD d mc ms) s m args below meth c (MQ below (QcI D G A Po) args s mc ms A) D G A n 0 0 0 (aL av) [] ws) : AMi l y b n ret d mc ms av ws Post :=
  AMi.of hy hn (fun D G A p e s m args below meth c X => body D G A p e s m args below meth c Post (fun _ _ h => h) X)
theorem AMv.of2 {Post : EW → Prop} (hy : plainName y.cls = true) (hn : av.length ≤ n)
    (body : ∀ (D : va_G) (G : GG) (A : Nat → Prop) (p : Program) (e : Env) (s : State) (m : MethodId) (args : Array Value) (below : List Frame) (meth : Method) (c : Code) (Po : EW → Prop), (∀ u, Post u → Po u) → meth.name = y.name → Cx p s m args meth c D G A b n none y.cls →
      S_ p l e (rmD d mc ms) s m args below meth c (MQ below (QcV D G A Po) args s mc ms A) D G A n 0 0 0 (aL av) [] ws) : AMv l y b n d mc ms av ws Post :=
  AMv.of hy hn (fun D G A p e s m args below meth c hnm X => body D G A p e s m args below meth c Post (fun _ h => h) hnm X)
theorem AMr.of2 {ret : FieldType} {Post : Nat → EW → Prop} (hy : plainName y.cls = true) (hn : av.length ≤ n)
    (body : ∀ (D : va_G) (G : GG) (A : Nat → Prop) (p : Program) (e : Env) (s : State) (m : MethodId) (args : Array Value) (below : List Frame) (meth : Method) (c : Code) (Po : Nat → EW → Prop), (∀ z u, Post z u → Po z u) → Cx p s m args meth c D G A b n (some ret) y.cls →
      S_ p l e (rmD d mc ms) s m args below meth c (MQ below (QcR D G A Po) args s mc ms A) D G A n 0 0 0 (aL av) [] ws) : AMr l y b n ret d mc ms av ws Post :=
  AMr.of hy hn (fun D G A p e s m args below meth c X => body D G A p e s m args below meth c Post (fun _ _ h => h) X)
theorem AMi.weaken {ret : FieldType} {P1 P2 : Int → EW → Prop} (h : AMi l y b n ret d mc ms av ws P1) (hp : ∀ z u, P1 z u → P2 z u) : AMi l y b n ret d mc ms av ws P2 := by
  intro D G sz p e h1 h2 h3 s m args below h4 h5 h6 h7
  obtain ⟨k, o, a1, a2, a3, ⟨a4, a5⟩, a6⟩ := h D G sz p e h1 h2 h3 s m args below h4 h5 h6 h7
  obtain ⟨r, u, b1, ⟨z, b2, b3⟩, b4⟩ := a4
  exact ⟨k, o, a1, a2, a3, ⟨⟨r, u, b1, ⟨z, b2, hp z u b3⟩, b4⟩, a5⟩, a6⟩
theorem AMv.weaken {P1 P2 : EW → Prop} (h : AMv l y b n d mc ms av ws P1) (hp : ∀ u, P1 u → P2 u) : AMv l y b n d mc ms av ws P2 := by
  intro D G sz p e h1 h2 h3 s m args below h4 h5 h6 h7
  obtain ⟨k, o, a1, a2, a3, ⟨a4, a5⟩, a6⟩ := h D G sz p e h1 h2 h3 s m args below h4 h5 h6 h7
  obtain ⟨u, b1, b3, b4⟩ := a4
  exact ⟨k, o, a1, a2, a3, ⟨⟨u, b1, hp u b3, b4⟩, a5⟩, a6⟩
end S2
section S3
variable {p : Program} {l : Launch} {e : Env} {R : Room} {s : State} {m : MethodId} {args : Array Value} {below : List Frame} {meth : Method} {c : Code} {Q : State → Prop} {D : va_G} {G : GG} {A : Nat → Prop} {cc : ByteArray} {nL cells slots pc : Nat} {rt : Option FieldType} {own : String} {L : Nat → Option AV} {st : List AV} {ws : EW}
theorem S_ishr (X : Cx p s m args meth c D G A cc nL rt own) {x y : Int} (hdg : decode cc pc = .ok (.ishr, 1)) (k : S_ p l e R s m args below meth c Q D G A nL cells slots (pc + 1) L (iv (zShr x y) :: st) ws) : S_ p l e R s m args below meth c Q D G A nL cells slots pc L (iv y :: iv x :: st) ws := by
  intro H locs ls hP hD hS hl
  have h3 := k H locs ls hP hD hS hl
  refine lv_ishr X.1 X.2.1 hdg ?_
  have e1 : tV (iv (zShr x y)) = .int (i32 x >>> (i32 y &&& 31)) := congrArg Value.int (i32_of _)
  rw [List.map_cons, e1] at h3
  exact h3
theorem S_ishl (X : Cx p s m args meth c D G A cc nL rt own) {x y : Int} (hdg : decode cc pc = .ok (.ishl, 1)) (k : S_ p l e R s m args below meth c Q D G A nL cells slots (pc + 1) L (iv (zShl x y) :: st) ws) : S_ p l e R s m args below meth c Q D G A nL cells slots pc L (iv y :: iv x :: st) ws := by
  intro H locs ls hP hD hS hl
  have h3 := k H locs ls hP hD hS hl
  refine lv_ishl X.1 X.2.1 hdg ?_
  have e1 : tV (iv (zShl x y)) = .int (i32 x <<< (i32 y &&& 31)) := congrArg Value.int (i32_of _)
  rw [List.map_cons, e1] at h3
  exact h3
theorem S_iushr (X : Cx p s m args meth c D G A cc nL rt own) {x y : Int} (hdg : decode cc pc = .ok (.iushr, 1)) (k : S_ p l e R s m args below meth c Q D G A nL cells slots (pc + 1) L (iv (zUshr x y) :: st) ws) : S_ p l e R s m args below meth c Q D G A nL cells slots pc L (iv y :: iv x :: st) ws := by
  intro H locs ls hP hD hS hl
  exact lv_iushr X.1 X.2.1 hdg (i32_of _).symm (k H locs ls hP hD hS hl)
theorem S_iand (X : Cx p s m args meth c D G A cc nL rt own) {x y : Int} (hdg : decode cc pc = .ok (.iand, 1)) (k : S_ p l e R s m args below meth c Q D G A nL cells slots (pc + 1) L (iv (zAnd x y) :: st) ws) : S_ p l e R s m args below meth c Q D G A nL cells slots pc L (iv y :: iv x :: st) ws := by
  intro H locs ls hP hD hS hl
  have h3 := k H locs ls hP hD hS hl
  refine lv_iand X.1 X.2.1 hdg ?_
  have e1 : tV (iv (zAnd x y)) = .int (i32 x &&& i32 y) := congrArg Value.int (i32_of _)
  rw [List.map_cons, e1] at h3
  exact h3
theorem S_ior (X : Cx p s m args meth c D G A cc nL rt own) {x y : Int} (hdg : decode cc pc = .ok (.ior, 1)) (k : S_ p l e R s m args below meth c Q D G A nL cells slots (pc + 1) L (iv (zOr x y) :: st) ws) : S_ p l e R s m args below meth c Q D G A nL cells slots pc L (iv y :: iv x :: st) ws := by
  intro H locs ls hP hD hS hl
  have h3 := k H locs ls hP hD hS hl
  refine lv_ior X.1 X.2.1 hdg ?_
  have e1 : tV (iv (zOr x y)) = .int (i32 x ||| i32 y) := congrArg Value.int (i32_of _)
  rw [List.map_cons, e1] at h3
  exact h3
theorem S_ixor (X : Cx p s m args meth c D G A cc nL rt own) {x y : Int} (hdg : decode cc pc = .ok (.ixor, 1)) (k : S_ p l e R s m args below meth c Q D G A nL cells slots (pc + 1) L (iv (zXor x y) :: st) ws) : S_ p l e R s m args below meth c Q D G A nL cells slots pc L (iv y :: iv x :: st) ws := by
  intro H locs ls hP hD hS hl
  have h3 := k H locs ls hP hD hS hl
  refine lv_ixor X.1 X.2.1 hdg ?_
  have e1 : tV (iv (zXor x y)) = .int (i32 x ^^^ i32 y) := congrArg Value.int (i32_of _)
  rw [List.map_cons, e1] at h3
  exact h3
theorem S_tswIn (X : Cx p s m args meth c D G A cc nL rt own) {dflt lo hi : Int} {offs : Array Int} {len : Nat} {x : Int} {off v : Int} {j tgt : Nat} (hdg : decode cc pc = .ok (.tableswitch dflt lo hi offs, len)) (hx : x = v) (ho : offs[j]? = some off) (hv : inR v ∧ v = lo + j ∧ v ≤ hi) (ht : (pc : Int) + off = (tgt : Int))
    (k : S_ p l e R s m args below meth c Q D G A nL cells slots tgt L st ws) : S_ p l e R s m args below meth c Q D G A nL cells slots pc L (iv x :: st) ws := by
  intro H locs ls hP hD hS hl
  subst hx
  have e1 : (i32 x).toInt = x := i32_toInt hv.1
  refine lv_tableIn X.1 X.2.1 hdg (by rw [e1]; omega) (by rw [e1]; omega) ?_ ht (k H locs ls hP hD hS hl)
  rw [e1]
  have e2 : (x - lo).toNat = j := by omega
  rw [e2]; exact ho
theorem S_tswOut (X : Cx p s m args meth c D G A cc nL rt own) {dflt lo hi : Int} {offs : Array Int} {len : Nat} {x : Int} {tgt : Nat} (hdg : decode cc pc = .ok (.tableswitch dflt lo hi offs, len)) (hx : inR x) (h : x < lo ∨ hi < x) (ht : (pc : Int) + dflt = (tgt : Int))
    (k : S_ p l e R s m args below meth c Q D G A nL cells slots tgt L st ws) : S_ p l e R s m args below meth c Q D G A nL cells slots pc L (iv x :: st) ws := by
  intro H locs ls hP hD hS hl
  exact lv_tableOut X.1 X.2.1 hdg (by rw [i32_toInt hx]; exact h) ht (k H locs ls hP hD hS hl)
theorem S_lkp (X : Cx p s m args meth c D G A cc nL rt own) {dflt : Int} {ps : Array (Int × Int)} {len : Nat} {x v : Int} {off : Int} {tgt : Nat} (hdg : decode cc pc = .ok (.lookupswitch dflt ps, len)) (hx : x = v) (hv : inR v) (hp : (ps.toList.zip (ps.toList.drop 1)).all (fun (a, next) => a.1 < next.1) = true) (ho : Op.lookupswitch.offset ps.toList dflt v = off) (ht : (pc : Int) + off = (tgt : Int))
    (k : S_ p l e R s m args below meth c Q D G A nL cells slots tgt L st ws) : S_ p l e R s m args below meth c Q D G A nL cells slots pc L (iv x :: st) ws := by
  intro H locs ls hP hD hS hl
  subst hx
  exact lv_lookup X.1 X.2.1 hdg hp (by rw [i32_toInt hv]; exact ho) ht (k H locs ls hP hD hS hl)
theorem S_lkpD (X : Cx p s m args meth c D G A cc nL rt own) {dflt : Int} {ps : Array (Int × Int)} {len : Nat} {x : Int} {off : Int} {tgt : Nat} (hdg : decode cc pc = .ok (.lookupswitch dflt ps, len)) (hx : inR x) (hp : (ps.toList.zip (ps.toList.drop 1)).all (fun (a, next) => a.1 < next.1) = true) (ho : Op.lookupswitch.offset ps.toList dflt x = off) (ht : (pc : Int) + off = (tgt : Int))
    (k : S_ p l e R s m args below meth c Q D G A nL cells slots tgt L st ws) : S_ p l e R s m args below meth c Q D G A nL cells slots pc L (iv x :: st) ws := by
  intro H locs ls hP hD hS hl
  exact lv_lookup X.1 X.2.1 hdg hp (by rw [i32_toInt hx]; exact ho) ht (k H locs ls hP hD hS hl)
theorem S_getsLEAST (X : Cx p s m args meth c D G A cc nL rt own) {idx : Nat} (hlink : Cond.fieldLink own idx "BorrowedBeat$TownReader" "LEAST" "[I" ∈ uw) (hdg : decode cc pc = .ok (.getstatic idx, 3))
    (k : ∀ t : Nat, va_T .int t 5 fTL A s s.heap → S_ p l e R s m args below meth c Q D G A nL cells slots (pc + 3) L (rv t :: st) ws) : S_ p l e R s m args below meth c Q D G A nL cells slots pc L st ws := by
  intro H locs ls hP hD hS hl
  obtain ⟨-, tL, tM, h2, h3, h4, h5⟩ := X.2.2.2.2.2.2.2.1
  exact va_gets X.1 X.2.1 h2 hS X.2.2.2.1 (X.2.2.2.2.1 _ hlink) (fun _ h9 => h9) hdg (k tL h3 H locs ls hP hD hS hl)
theorem S_getsMOST (X : Cx p s m args meth c D G A cc nL rt own) {idx : Nat} (hlink : Cond.fieldLink own idx "BorrowedBeat$TownReader" "MOST" "[I" ∈ uw) (hdg : decode cc pc = .ok (.getstatic idx, 3))
    (k : ∀ t : Nat, va_T .int t 5 fTM A s s.heap → S_ p l e R s m args below meth c Q D G A nL cells slots (pc + 3) L (rv t :: st) ws) : S_ p l e R s m args below meth c Q D G A nL cells slots pc L st ws := by
  intro H locs ls hP hD hS hl
  obtain ⟨-, tL, tM, h2, h3, h4, h5⟩ := X.2.2.2.2.2.2.2.1
  exact va_gets X.1 X.2.1 h4 hS X.2.2.2.1 (X.2.2.2.2.1 _ hlink) (fun _ h9 => h9) hdg (k tM h5 H locs ls hP hD hS hl)
theorem S_aret {Post : Nat → EW → Prop} {mc ms : Nat} {t0 : FieldType} (X : Cx p s m args meth c D G A cc nL (some t0) own) {a : Nat} (hn : (∃ n, t0 = .object n) ∨ ∃ t, t0 = .array t) (hc1 : cells ≤ mc) (hc2 : slots ≤ ms) (hdg : decode cc pc = .ok (.areturn, 1)) (hp : Post a ws) : S_ p l e (R) s m args below meth c (MQ below (QcR D G A Post) args s mc ms A) D G A nL cells slots pc L [rv a] ws := by
  intro H locs ls hP hD hS hl
  refine W.widen (k := mc) (n := ms) hc1 hc2 ?_
  exact W.aret (v := .ref a) X.1 X.2.1 X.2.2.2.2.2.2.2.2.1 hn (Or.inr ⟨a, rfl⟩) (fun t ht hW => ⟨⟨ws, a, rfl, trivial, hp, by rw [ht]; exact hP, va_K.moved hW.alike X.2.2.2.2.2.1, hD⟩, hS.F ht⟩) hS.2.2 hdg X.2.2.2.2.2.2.2.2.2
theorem S_tald (X : Cx p s m args meth c D G A cc nL rt own) {t N : Nat} {f : Nat → Value} {g : Int → Int} {z : Int} (hT : va_T .int t N f A s s.heap) (hfg : ∀ j : Nat, f j = .int (i32 (g (j : Int)))) (h0 : 0 ≤ z) (h1 : z < N) (hN : N ≤ 2147483647) (hdg : decode cc pc = .ok (.iaload, 1)) (k : S_ p l e R s m args below meth c Q D G A nL cells slots (pc + 1) L (iv (g z) :: st) ws) : S_ p l e R s m args below meth c Q D G A nL cells slots pc L (iv z :: rv t :: st) ws := by
  intro H locs ls hP hD hS hl
  refine va_ti X.1 X.2.1 hT hS (i32_vp h0 h1 hN) (v := .int (i32 (g z))) ?_ hdg (k H locs ls hP hD hS hl)
  rw [hfg, i32_nat h0 ⟨by omega, by omega⟩, Int.toNat_of_nonneg h0]
theorem S_iincK (X : Cx p s m args meth c D G A cc nL rt own) {i : Nat} {n z w : Int} (hdg : decode cc pc = .ok (.iinc i n, 3)) (hn : i < nL) (hL : L i = some (iv z)) (hw : z + n = w) (kk : S_ p l e R s m args below meth c Q D G A nL cells slots (pc + 3) (uF L i (some (iv w))) st ws) : S_ p l e R s m args below meth c Q D G A nL cells slots pc L st ws := by
  subst hw
  exact S_iinc X hdg hn hL kk
end S3
def gTL (z : Int) : Int := [1, 0, 0, 0, 0].getD z.toNat 0
def gTM (z : Int) : Int := [99, 9, 3, 5, 10].getD z.toNat 0
theorem fTL_g (j : Nat) : fTL j = .int (i32 (gTL (j : Int))) := rfl
theorem fTM_g (j : Nat) : fTM j = .int (i32 (gTM (j : Int))) := rfl
