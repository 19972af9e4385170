/-! WORDS OF THE TABLES that may go with every method; what never changes (nest words, two static tables) -/
def ncM : MethodName := ⟨"BorrowedBeat$Reader", "nextClause", "()Z"⟩
/-- a private method of an abstract class, called on an object of a class below it: it is itself selected -/
def exW : List Cond := [Cond.selects "BorrowedBeat$LawReader" ncM ncM, Cond.selects "BorrowedBeat$TownReader" ncM ncM]
def uw : List Cond := (lw_tbl ++ exW).filter goodWord
def nW (w : Cond) : Bool := match w with
  | .methodLinkNest _ _ _ _ => true
  | .declares _ => true
  | .arrayOver (.object _) => true
  | .castable _ _ => true
  | _ => false
def nw : List Cond := lw_tbl.filter nW
theorem uw_good : GoodIn uw uw := fun w h => ⟨h, good_of_word (List.mem_filter.mp h).2⟩
theorem uw_goods {ws : List Cond} (h : ∀ w ∈ ws, w ∈ uw) : GoodIn uw ws := fun w hw => uw_good w (h w hw)
def fTL (j : Nat) : Value := .int (i32 ([1, 0, 0, 0, 0].getD j 0))
def fTM (j : Nat) : Value := .int (i32 ([99, 9, 3, 5, 10].getD j 0))
def Ev (A : Nat → Prop) (U : State) (H : Heap) : Prop := (∀ w ∈ nw, va_Nw w U) ∧ ∃ tL tM : Nat, va_Z "BorrowedBeat$TownReader" "LEAST" "[I" (.ref tL) A U H ∧ va_T .int tL 5 fTL A U H ∧ va_Z "BorrowedBeat$TownReader" "MOST" "[I" (.ref tM) A U H ∧ va_T .int tM 5 fTM A U H
theorem nw_nest {w : Cond} (h : w ∈ nw) : (∃ a i x b, w = .methodLinkNest a i x b) ∨ (∃ x, w = .declares x) ∨ (∃ C, w = .arrayOver (.object C)) ∨ ∃ a b, w = .castable a b := by
  have h2 := (List.mem_filter.mp h).2
  unfold nW at h2
  split at h2
  · exact Or.inl ⟨_, _, _, _, rfl⟩
  · exact Or.inr (Or.inl ⟨_, rfl⟩)
  · exact Or.inr (Or.inr (Or.inl ⟨_, rfl⟩))
  · exact Or.inr (Or.inr (Or.inr ⟨_, _, rfl⟩))
  · cases h2
theorem Ev.go {A B : Nat → Prop} {s U : State} {H : Heap} (h : Ev A s s.heap) (hW : s.WarmedH U.vm) (hk : ∀ a : Nat, a < s.heap.size → ¬ A a → H[a]? = s.heap[a]?) (hAB : ∀ q, B q → A q) : Ev B U H := by
  obtain ⟨h1, tL, tM, h2, h3, h4, h5⟩ := h
  refine ⟨fun w hw => ?_, tL, tM, ((h2.kept hk).moved hW.alike).narrow hAB, ((h3.kept hk).moved hW.alike).narrow hAB, ((h4.kept hk).moved hW.alike).narrow hAB, ((h5.kept hk).moved hW.alike).narrow hAB⟩
  rcases nw_nest hw with ⟨a, i, x, b, rfl⟩ | ⟨x, rfl⟩ | ⟨C, rfl⟩ | ⟨a, b, rfl⟩
  · exact va_Nw.warmM hW (h1 _ hw)
  · exact va_Nw.warmD hW (h1 _ hw)
  · exact va_AO.moved hW.alike (h1 _ hw)
  · exact va_Nw.warmC hW (h1 _ hw)
theorem Ev.same {A : Nat → Prop} {u U : State} {H : Heap} (h : Ev A u H) (hvm : u.vm = U.vm) : Ev A U H := by
  obtain ⟨h1, tL, tM, h2, h3, h4, h5⟩ := h
  have hal : u.vm.Alike U.vm := by rw [hvm]; exact Vm.Alike.refl _
  refine ⟨fun w hw => ?_, tL, tM, h2.moved hal, h3.moved hal, h4.moved hal, h5.moved hal⟩
  rcases nw_nest hw with ⟨a, i, x, b, rfl⟩ | ⟨x, rfl⟩ | ⟨C, rfl⟩ | ⟨a, b, rfl⟩
  · exact va_Nw.same rfl hvm (h1 _ hw)
  · exact va_Nw.same rfl hvm (h1 _ hw)
  · exact va_AO.moved hal (h1 _ hw)
  · exact va_Nw.same rfl hvm (h1 _ hw)
def S_ (p : Program) (l : Launch) (e : Env) (R : Room) (s : State) (m : MethodId) (args : Array Value) (below : List Frame) (meth : Method) (c : Code) (Q : State → Prop) (D : va_G) (G : GG) (A : Nat → Prop) (nL cells slots pc : Nat) (L : Nat → Option AV) (st : List AV) (ws : EW) : Prop :=
  ∀ (H : Heap) (locs : List Loc) (ls : Array Slot), va_P D vwCl (tW G ws) H → va_D A (tW G ws) → va_S A s.heap H locs → LH ls nL L → W p l e R s m args below meth c H locs cells slots Q (F0 m pc ls (st.map tV))
def Cx (p : Program) (s : State) (m : MethodId) (args : Array Value) (meth : Method) (c : Code) (D : va_G) (G : GG) (A : Nat → Prop) (cc : ByteArray) (nL : Nat) (rt : Option FieldType) (own : String) : Prop :=
  p.tables.exec = Jvm.exec ∧ c.code = cc ∧ c.maxLocals = nL ∧ s.vm.findClass own = some m.cls ∧ (∀ w ∈ uw, w.before args s = true) ∧ va_K D vwCl (tyG G) s ∧ (∀ q : Nat, s.heap.size ≤ q → A q) ∧ Ev A s s.heap ∧ meth.sig.returnType = rt ∧ meth.locks = false
def lL (nL : Nat) (L : Nat → Option AV) : List (Nat × Value) := (List.range nL).filterMap (fun i => (L i).map (fun v => (i, tV v)))
theorem LH.lt {ls : Array Slot} {nL : Nat} {L : Nat → Option AV} (h : LH ls nL L) {i : Nat} {v : AV} (hv : L i = some v) : i < nL := by
  have h1 := h.2.2 i v hv
  rw [← h.1]
  exact (Array.getElem?_eq_some_iff.mp h1).1
theorem mem_lL {nL : Nat} {L : Nat → Option AV} {i : Nat} {v : AV} (hi : i < nL) (hv : L i = some v) : (i, tV v) ∈ lL nL L :=
  List.mem_filterMap.mpr ⟨i, List.mem_range.mpr hi, by rw [hv]; rfl⟩
theorem of_lL {nL : Nat} {L : Nat → Option AV} {q : Nat × Value} (h : q ∈ lL nL L) : ∃ v, L q.1 = some v ∧ q.2 = tV v := by
  obtain ⟨i, -, h2⟩ := List.mem_filterMap.mp h
  cases hL : L i with
  | none => rw [hL] at h2; cases h2
  | some v => rw [hL] at h2; cases h2; exact ⟨v, hL, rfl⟩
theorem LH.has {ls : Array Slot} {nL : Nat} {L : Nat → Option AV} (h : LH ls nL L) : lv_has ls nL (lL nL L) := by
  refine ⟨h.1, h.2.1, fun q hq => ?_⟩
  obtain ⟨v, h1, h2⟩ := of_lL hq
  rw [h2]
  exact h.2.2 _ _ h1
theorem tV_cat (v : AV) : (tV v).category = 1 := by
  rcases v with z | r
  · rfl
  · cases r <;> rfl
theorem LH.st {ls' : Array Slot} {nL i : Nat} {L : Nat → Option AV} {v : AV} (hn : ∀ (j : Nat) (w : AV), L j = some w → j < nL) (h : lv_has ls' nL ((i, tV v) :: (lL nL L).filter (fun q => !(q.1 == i) && !(q.1 + 1 == i && q.2.category == 2)))) : LH ls' nL (uF L i (some v)) := by
  refine ⟨h.1, h.2.1, fun j w hw => ?_⟩
  unfold uF at hw
  by_cases hj : j = i
  · rw [if_pos hj] at hw
    cases hw
    rw [hj]
    exact h.2.2 _ List.mem_cons_self
  · rw [if_neg hj] at hw
    refine h.2.2 (j, tV w) (List.mem_cons_of_mem _ (List.mem_filter.mpr ⟨mem_lL (hn j w hw) hw, ?_⟩))
    simp [hj, tV_cat]
theorem tW_at {G : GG} {ws : EW} {k a : Nat} {x : EE} (h : ws[k]? = some (a, x)) : (tW G ws)[k]? = some (a, tE G x) := by
  unfold tW
  rw [List.getElem?_map, h]
  rfl
theorem tW_set {G : GG} {ws : EW} {k a : Nat} {x : EE} : (tW G ws).set k (a, tE G x) = tW G (ws.set k (a, x)) := by
  unfold tW
  rw [List.map_set]
theorem tF_at {n k : Nat} {f : Nat → AV} (hk : k < n) : ((List.range n).map (fun k => tV (f k)))[k]? = some (tV (f k)) := by
  rw [List.getElem?_map, List.getElem?_range hk]
  rfl
theorem tF_set {n k : Nat} {f : Nat → AV} {v : AV} : ((List.range n).map (fun k => tV (f k))).set k (tV v) = (List.range n).map (fun j => tV (uF f k v j)) := by
  apply List.ext_getElem?
  intro j
  rw [List.getElem?_set]
  simp only [List.getElem?_map, List.length_map, List.length_range]
  unfold uF
  by_cases hj : k = j
  · subst hj
    by_cases hk : k < n
    · simp [hk]
    · simp [hk]
  · have hj' : ¬ j = k := fun h => hj h.symm
    by_cases hk : j < n
    · simp [hj, hj', hk]
    · simp [hj, hk]
section SR
variable {p : Program} {l : Launch} {e : Env} {R : Room} {s : State} {m : MethodId} {args : Array Value} {below : List Frame} {meth : Method} {c : Code} {Q : State → Prop} {D : va_G} {G : GG} {A : Nat → Prop} {cc : ByteArray} {nL cells slots pc : Nat} {rt : Option FieldType} {own : String} {L : Nat → Option AV} {st : List AV} {ws : EW}
theorem S_w {ws' : EW} (h : ws = ws') (k : S_ p l e R s m args below meth c Q D G A nL cells slots pc L st ws') : S_ p l e R s m args below meth c Q D G A nL cells slots pc L st ws := h ▸ k
theorem S_st {st' : List AV} (h : st = st') (k : S_ p l e R s m args below meth c Q D G A nL cells slots pc L st' ws) : S_ p l e R s m args below meth c Q D G A nL cells slots pc L st ws := h ▸ k
theorem S_L {L' : Nat → Option AV} (h : ∀ i v, L' i = some v → L i = some v) (k : S_ p l e R s m args below meth c Q D G A nL cells slots pc L' st ws) : S_ p l e R s m args below meth c Q D G A nL cells slots pc L st ws :=
  fun H locs ls hP hD hS hl => k H locs ls hP hD hS ⟨hl.1, hl.2.1, fun i v hv => hl.2.2 i v (h i v hv)⟩
theorem S_iconst (X : Cx p s m args meth c D G A cc nL rt own) {n : Int} (hdg : decode cc pc = .ok (.iconst n, 1)) (k : S_ p l e R s m args below meth c Q D G A nL cells slots (pc + 1) L (iv n :: st) ws) : S_ p l e R s m args below meth c Q D G A nL cells slots pc L st ws :=
  fun H locs ls hP hD hS hl => lv_iconst X.1 X.2.1 hdg rfl (k H locs ls hP hD hS hl)
theorem S_bipush (X : Cx p s m args meth c D G A cc nL rt own) {n : Int} (hdg : decode cc pc = .ok (.bipush n, 2)) (hv : (Int8.ofInt n).toInt32 = i32 n) (k : S_ p l e R s m args below meth c Q D G A nL cells slots (pc + 2) L (iv n :: st) ws) : S_ p l e R s m args below meth c Q D G A nL cells slots pc L st ws :=
  fun H locs ls hP hD hS hl => lv_bipush X.1 X.2.1 hdg hv (k H locs ls hP hD hS hl)
theorem S_sipush (X : Cx p s m args meth c D G A cc nL rt own) {n : Int} (hdg : decode cc pc = .ok (.sipush n, 3)) (hv : (Int16.ofInt n).toInt32 = i32 n) (k : S_ p l e R s m args below meth c Q D G A nL cells slots (pc + 3) L (iv n :: st) ws) : S_ p l e R s m args below meth c Q D G A nL cells slots pc L st ws :=
  fun H locs ls hP hD hS hl => lv_sipush X.1 X.2.1 hdg hv (k H locs ls hP hD hS hl)
theorem S_ldc (X : Cx p s m args meth c D G A cc nL rt own) {index : Nat} {n : Int} (hw : Cond.constant own index (i32 n) ∈ uw) (hdg : decode cc pc = .ok (.ldc index, 2)) (k : S_ p l e R s m args below meth c Q D G A nL cells slots (pc + 2) L (iv n :: st) ws) : S_ p l e R s m args below meth c Q D G A nL cells slots pc L st ws :=
  fun H locs ls hP hD hS hl => lv_ldc X.1 X.2.1 X.2.2.2.1 (X.2.2.2.2.1 _ hw) hdg (k H locs ls hP hD hS hl)
theorem S_iload_n (X : Cx p s m args meth c D G A cc nL rt own) {k : Fin 4} {i : Nat} {z : Int} (hdg : decode cc pc = .ok (.iload_n k, 1)) (hi : (k : Nat) = i) (hL : L i = some (iv z)) (kk : S_ p l e R s m args below meth c Q D G A nL cells slots (pc + 1) L (iv z :: st) ws) : S_ p l e R s m args below meth c Q D G A nL cells slots pc L st ws :=
  fun H locs ls hP hD hS hl => lv_iload_n X.1 X.2.1 hdg hi (hl.2.2 _ _ hL) (kk H locs ls hP hD hS hl)
theorem S_iload (X : Cx p s m args meth c D G A cc nL rt own) {i : Nat} {z : Int} (hdg : decode cc pc = .ok (.iload i, 2)) (hL : L i = some (iv z)) (kk : S_ p l e R s m args below meth c Q D G A nL cells slots (pc + 2) L (iv z :: st) ws) : S_ p l e R s m args below meth c Q D G A nL cells slots pc L st ws :=
  fun H locs ls hP hD hS hl => lv_iload X.1 X.2.1 hdg (hl.2.2 _ _ hL) (kk H locs ls hP hD hS hl)
theorem S_aload_n (X : Cx p s m args meth c D G A cc nL rt own) {k : Fin 4} {i : Nat} {a : Nat} (hdg : decode cc pc = .ok (.aload_n k, 1)) (hi : (k : Nat) = i) (hL : L i = some (rv a)) (kk : S_ p l e R s m args below meth c Q D G A nL cells slots (pc + 1) L (rv a :: st) ws) : S_ p l e R s m args below meth c Q D G A nL cells slots pc L st ws :=
  fun H locs ls hP hD hS hl => lv_aload_n X.1 X.2.1 hdg hi (hl.2.2 _ _ hL) (kk H locs ls hP hD hS hl)
theorem S_aload_nN (X : Cx p s m args meth c D G A cc nL rt own) {k : Fin 4} {i : Nat} (hdg : decode cc pc = .ok (.aload_n k, 1)) (hi : (k : Nat) = i) (hL : L i = some nv) (kk : S_ p l e R s m args below meth c Q D G A nL cells slots (pc + 1) L (nv :: st) ws) : S_ p l e R s m args below meth c Q D G A nL cells slots pc L st ws :=
  fun H locs ls hP hD hS hl => lv_aload_nN X.1 X.2.1 hdg hi (hl.2.2 _ _ hL) (kk H locs ls hP hD hS hl)
theorem S_aload (X : Cx p s m args meth c D G A cc nL rt own) {i : Nat} {a : Nat} (hdg : decode cc pc = .ok (.aload i, 2)) (hL : L i = some (rv a)) (kk : S_ p l e R s m args below meth c Q D G A nL cells slots (pc + 2) L (rv a :: st) ws) : S_ p l e R s m args below meth c Q D G A nL cells slots pc L st ws :=
  fun H locs ls hP hD hS hl => lv_aload X.1 X.2.1 hdg (hl.2.2 _ _ hL) (kk H locs ls hP hD hS hl)
theorem S_istore_n (X : Cx p s m args meth c D G A cc nL rt own) {k : Fin 4} {i : Nat} {z : Int} (hdg : decode cc pc = .ok (.istore_n k, 1)) (hi : (k : Nat) = i) (hn : i < nL) (kk : S_ p l e R s m args below meth c Q D G A nL cells slots (pc + 1) (uF L i (some (iv z))) st ws) : S_ p l e R s m args below meth c Q D G A nL cells slots pc L (iv z :: st) ws :=
  fun H locs ls hP hD hS hl => lv_istore_n X.1 X.2.1 hdg hi hl.has hn rfl (fun ls' hl' => kk H locs ls' hP hD hS (LH.st (v := iv z) (fun j w hw => hl.lt hw) hl'))
theorem S_istore (X : Cx p s m args meth c D G A cc nL rt own) {i : Nat} {z : Int} (hdg : decode cc pc = .ok (.istore i, 2)) (hn : i < nL) (kk : S_ p l e R s m args below meth c Q D G A nL cells slots (pc + 2) (uF L i (some (iv z))) st ws) : S_ p l e R s m args below meth c Q D G A nL cells slots pc L (iv z :: st) ws :=
  fun H locs ls hP hD hS hl => lv_istore X.1 X.2.1 hdg hl.has hn rfl (fun ls' hl' => kk H locs ls' hP hD hS (LH.st (v := iv z) (fun j w hw => hl.lt hw) hl'))
theorem S_astore_n (X : Cx p s m args meth c D G A cc nL rt own) {k : Fin 4} {i : Nat} {a : Nat} (hdg : decode cc pc = .ok (.astore_n k, 1)) (hi : (k : Nat) = i) (hn : i < nL) (kk : S_ p l e R s m args below meth c Q D G A nL cells slots (pc + 1) (uF L i (some (rv a))) st ws) : S_ p l e R s m args below meth c Q D G A nL cells slots pc L (rv a :: st) ws :=
  fun H locs ls hP hD hS hl => lv_astore_n X.1 X.2.1 hdg hi hl.has hn rfl (fun ls' hl' => kk H locs ls' hP hD hS (LH.st (v := rv a) (fun j w hw => hl.lt hw) hl'))
theorem S_astore (X : Cx p s m args meth c D G A cc nL rt own) {i : Nat} {a : Nat} (hdg : decode cc pc = .ok (.astore i, 2)) (hn : i < nL) (kk : S_ p l e R s m args below meth c Q D G A nL cells slots (pc + 2) (uF L i (some (rv a))) st ws) : S_ p l e R s m args below meth c Q D G A nL cells slots pc L (rv a :: st) ws :=
  fun H locs ls hP hD hS hl => lv_astore X.1 X.2.1 hdg hl.has hn rfl (fun ls' hl' => kk H locs ls' hP hD hS (LH.st (v := rv a) (fun j w hw => hl.lt hw) hl'))
theorem S_iinc (X : Cx p s m args meth c D G A cc nL rt own) {i : Nat} {n z : Int} (hdg : decode cc pc = .ok (.iinc i n, 3)) (hn : i < nL) (hL : L i = some (iv z)) (kk : S_ p l e R s m args below meth c Q D G A nL cells slots (pc + 3) (uF L i (some (iv (z + n)))) st ws) : S_ p l e R s m args below meth c Q D G A nL cells slots pc L st ws := by
  intro H locs ls hP hD hS hl
  obtain ⟨k, hk⟩ := List.getElem?_of_mem (mem_lL (hl.lt hL) hL)
  exact lv_iinc X.1 X.2.1 hdg hl.has hk (i32_add z n) hn rfl (fun ls' hl' => kk H locs ls' hP hD hS (LH.st (v := iv (z + n)) (fun j w hw => hl.lt hw) hl'))
theorem S_iadd (X : Cx p s m args meth c D G A cc nL rt own) {x y : Int} (hdg : decode cc pc = .ok (.iadd, 1)) (k : S_ p l e R s m args below meth c Q D G A nL cells slots (pc + 1) L (iv (x + y) :: st) ws) : S_ p l e R s m args below meth c Q D G A nL cells slots pc L (iv y :: iv x :: st) ws :=
  fun H locs ls hP hD hS hl => lv_iadd X.1 X.2.1 hdg (by rw [i32_add]; exact k H locs ls hP hD hS hl)
theorem S_isub (X : Cx p s m args meth c D G A cc nL rt own) {x y : Int} (hdg : decode cc pc = .ok (.isub, 1)) (k : S_ p l e R s m args below meth c Q D G A nL cells slots (pc + 1) L (iv (x - y) :: st) ws) : S_ p l e R s m args below meth c Q D G A nL cells slots pc L (iv y :: iv x :: st) ws :=
  fun H locs ls hP hD hS hl => lv_isub X.1 X.2.1 hdg (by rw [i32_sub]; exact k H locs ls hP hD hS hl)
theorem S_imul (X : Cx p s m args meth c D G A cc nL rt own) {x y : Int} (hdg : decode cc pc = .ok (.imul, 1)) (k : S_ p l e R s m args below meth c Q D G A nL cells slots (pc + 1) L (iv (x * y) :: st) ws) : S_ p l e R s m args below meth c Q D G A nL cells slots pc L (iv y :: iv x :: st) ws :=
  fun H locs ls hP hD hS hl => lv_imul X.1 X.2.1 hdg (by rw [i32_mul]; exact k H locs ls hP hD hS hl)
theorem S_ineg (X : Cx p s m args meth c D G A cc nL rt own) {x : Int} (hdg : decode cc pc = .ok (.ineg, 1)) (k : S_ p l e R s m args below meth c Q D G A nL cells slots (pc + 1) L (iv (-x) :: st) ws) : S_ p l e R s m args below meth c Q D G A nL cells slots pc L (iv x :: st) ws :=
  fun H locs ls hP hD hS hl => lv_ineg X.1 X.2.1 hdg (by rw [i32_neg]; exact k H locs ls hP hD hS hl)
theorem S_idiv (X : Cx p s m args meth c D G A cc nL rt own) {x y : Int} (hx : inR x) (hy : inR y) (h0 : y ≠ 0) (hdg : decode cc pc = .ok (.idiv, 1)) (k : S_ p l e R s m args below meth c Q D G A nL cells slots (pc + 1) L (iv (x.tdiv y) :: st) ws) : S_ p l e R s m args below meth c Q D G A nL cells slots pc L (iv y :: iv x :: st) ws :=
  fun H locs ls hP hD hS hl => lv_idiv X.1 X.2.1 hdg (fun h => h0 ((i32_inj hy inR_0).mp (h.trans i32_0))) (by rw [i32_div hx hy]; exact k H locs ls hP hD hS hl)
theorem S_irem (X : Cx p s m args meth c D G A cc nL rt own) {x y : Int} (hx : inR x) (hy : inR y) (h0 : y ≠ 0) (hdg : decode cc pc = .ok (.irem, 1)) (k : S_ p l e R s m args below meth c Q D G A nL cells slots (pc + 1) L (iv (x.tmod y) :: st) ws) : S_ p l e R s m args below meth c Q D G A nL cells slots pc L (iv y :: iv x :: st) ws :=
  fun H locs ls hP hD hS hl => lv_irem X.1 X.2.1 hdg (fun h => h0 ((i32_inj hy inR_0).mp (h.trans i32_0))) (by rw [i32_rem hx hy]; exact k H locs ls hP hD hS hl)
theorem S_dup (X : Cx p s m args meth c D G A cc nL rt own) {v : AV} (hdg : decode cc pc = .ok (.dup, 1)) (k : S_ p l e R s m args below meth c Q D G A nL cells slots (pc + 1) L (v :: v :: st) ws) : S_ p l e R s m args below meth c Q D G A nL cells slots pc L (v :: st) ws :=
  fun H locs ls hP hD hS hl => lv_dup X.1 X.2.1 hdg (tV_cat v) (k H locs ls hP hD hS hl)
theorem S_dup2 (X : Cx p s m args meth c D G A cc nL rt own) {v w : AV} (hdg : decode cc pc = .ok (.dup2, 1)) (k : S_ p l e R s m args below meth c Q D G A nL cells slots (pc + 1) L (v :: w :: v :: w :: st) ws) : S_ p l e R s m args below meth c Q D G A nL cells slots pc L (v :: w :: st) ws :=
  fun H locs ls hP hD hS hl => lv_dup2_11 X.1 X.2.1 hdg (tV_cat v) (tV_cat w) (k H locs ls hP hD hS hl)
theorem S_pop (X : Cx p s m args meth c D G A cc nL rt own) {v : AV} (hdg : decode cc pc = .ok (.pop, 1)) (k : S_ p l e R s m args below meth c Q D G A nL cells slots (pc + 1) L st ws) : S_ p l e R s m args below meth c Q D G A nL cells slots pc L (v :: st) ws :=
  fun H locs ls hP hD hS hl => lv_pop X.1 X.2.1 hdg (tV_cat v) (k H locs ls hP hD hS hl)
theorem S_goto (X : Cx p s m args meth c D G A cc nL rt own) {off : Int} {tgt : Nat} (hdg : decode cc pc = .ok (.goto off, 3)) (ht : (pc : Int) + off = (tgt : Int)) (k : S_ p l e R s m args below meth c Q D G A nL cells slots tgt L st ws) : S_ p l e R s m args below meth c Q D G A nL cells slots pc L st ws :=
  fun H locs ls hP hD hS hl => lv_goto X.1 X.2.1 hdg ht (k H locs ls hP hD hS hl)
theorem S_icmp_eq (X : Cx p s m args meth c D G A cc nL rt own) {x y : Int} {off : Int} {tgt : Nat} (hdg : decode cc pc = .ok (.if_icmp .eq off, 3)) (ht : (pc : Int) + off = (tgt : Int)) (hx : inR x) (hy : inR y) (kt : x = y → S_ p l e R s m args below meth c Q D G A nL cells slots tgt L st ws) (kf : ¬ x = y → S_ p l e R s m args below meth c Q D G A nL cells slots (pc + 3) L st ws) : S_ p l e R s m args below meth c Q D G A nL cells slots pc L (iv y :: iv x :: st) ws :=
  fun H locs ls hP hD hS hl => lv_icmp_eq X.1 X.2.1 hdg ht (fun h => kt ((i32_inj hx hy).mp h) H locs ls hP hD hS hl) (fun h => kf (fun h2 => h ((i32_inj hx hy).mpr h2)) H locs ls hP hD hS hl)
theorem S_icmp_ne (X : Cx p s m args meth c D G A cc nL rt own) {x y : Int} {off : Int} {tgt : Nat} (hdg : decode cc pc = .ok (.if_icmp .ne off, 3)) (ht : (pc : Int) + off = (tgt : Int)) (hx : inR x) (hy : inR y) (kt : ¬ x = y → S_ p l e R s m args below meth c Q D G A nL cells slots tgt L st ws) (kf : x = y → S_ p l e R s m args below meth c Q D G A nL cells slots (pc + 3) L st ws) : S_ p l e R s m args below meth c Q D G A nL cells slots pc L (iv y :: iv x :: st) ws :=
  fun H locs ls hP hD hS hl => lv_icmp_ne X.1 X.2.1 hdg ht (fun h => kt (fun h2 => h ((i32_inj hx hy).mpr h2)) H locs ls hP hD hS hl) (fun h => kf (by first | exact (i32_inj hx hy).mp h | exact (i32_inj hx hy).mp (Decidable.not_not.mp h)) H locs ls hP hD hS hl)
theorem S_icmp_lt (X : Cx p s m args meth c D G A cc nL rt own) {x y : Int} {off : Int} {tgt : Nat} (hdg : decode cc pc = .ok (.if_icmp .lt off, 3)) (ht : (pc : Int) + off = (tgt : Int)) (hx : inR x) (hy : inR y) (kt : x < y → S_ p l e R s m args below meth c Q D G A nL cells slots tgt L st ws) (kf : y ≤ x → S_ p l e R s m args below meth c Q D G A nL cells slots (pc + 3) L st ws) : S_ p l e R s m args below meth c Q D G A nL cells slots pc L (iv y :: iv x :: st) ws :=
  fun H locs ls hP hD hS hl => lv_icmp_lt X.1 X.2.1 hdg ht (fun h => kt ((i32_lt hx hy).mp h) H locs ls hP hD hS hl) (fun h => kf (Int.not_lt.mp (fun h2 => h ((i32_lt hx hy).mpr h2))) H locs ls hP hD hS hl)
theorem S_icmp_ge (X : Cx p s m args meth c D G A cc nL rt own) {x y : Int} {off : Int} {tgt : Nat} (hdg : decode cc pc = .ok (.if_icmp .ge off, 3)) (ht : (pc : Int) + off = (tgt : Int)) (hx : inR x) (hy : inR y) (kt : y ≤ x → S_ p l e R s m args below meth c Q D G A nL cells slots tgt L st ws) (kf : x < y → S_ p l e R s m args below meth c Q D G A nL cells slots (pc + 3) L st ws) : S_ p l e R s m args below meth c Q D G A nL cells slots pc L (iv y :: iv x :: st) ws :=
  fun H locs ls hP hD hS hl => lv_icmp_ge X.1 X.2.1 hdg ht (fun h => kt ((i32_le hy hx).mp h) H locs ls hP hD hS hl) (fun h => kf (Int.not_le.mp (fun h2 => h ((i32_le hy hx).mpr h2))) H locs ls hP hD hS hl)
theorem S_icmp_gt (X : Cx p s m args meth c D G A cc nL rt own) {x y : Int} {off : Int} {tgt : Nat} (hdg : decode cc pc = .ok (.if_icmp .gt off, 3)) (ht : (pc : Int) + off = (tgt : Int)) (hx : inR x) (hy : inR y) (kt : y < x → S_ p l e R s m args below meth c Q D G A nL cells slots tgt L st ws) (kf : x ≤ y → S_ p l e R s m args below meth c Q D G A nL cells slots (pc + 3) L st ws) : S_ p l e R s m args below meth c Q D G A nL cells slots pc L (iv y :: iv x :: st) ws :=
  fun H locs ls hP hD hS hl => lv_icmp_gt X.1 X.2.1 hdg ht (fun h => kt ((i32_lt hy hx).mp h) H locs ls hP hD hS hl) (fun h => kf (Int.not_lt.mp (fun h2 => h ((i32_lt hy hx).mpr h2))) H locs ls hP hD hS hl)
theorem S_icmp_le (X : Cx p s m args meth c D G A cc nL rt own) {x y : Int} {off : Int} {tgt : Nat} (hdg : decode cc pc = .ok (.if_icmp .le off, 3)) (ht : (pc : Int) + off = (tgt : Int)) (hx : inR x) (hy : inR y) (kt : x ≤ y → S_ p l e R s m args below meth c Q D G A nL cells slots tgt L st ws) (kf : y < x → S_ p l e R s m args below meth c Q D G A nL cells slots (pc + 3) L st ws) : S_ p l e R s m args below meth c Q D G A nL cells slots pc L (iv y :: iv x :: st) ws :=
  fun H locs ls hP hD hS hl => lv_icmp_le X.1 X.2.1 hdg ht (fun h => kt ((i32_le hx hy).mp h) H locs ls hP hD hS hl) (fun h => kf (Int.not_le.mp (fun h2 => h ((i32_le hx hy).mpr h2))) H locs ls hP hD hS hl)
theorem S_if_eq (X : Cx p s m args meth c D G A cc nL rt own) {x : Int} {off : Int} {tgt : Nat} (hdg : decode cc pc = .ok (.ifCond .eq off, 3)) (ht : (pc : Int) + off = (tgt : Int)) (hx : inR x) (kt : x = 0 → S_ p l e R s m args below meth c Q D G A nL cells slots tgt L st ws) (kf : ¬ x = 0 → S_ p l e R s m args below meth c Q D G A nL cells slots (pc + 3) L st ws) : S_ p l e R s m args below meth c Q D G A nL cells slots pc L (iv x :: st) ws :=
  fun H locs ls hP hD hS hl => lv_if_eq X.1 X.2.1 hdg ht (fun h => kt ((i32_inj hx inR_0).mp (h.trans i32_0)) H locs ls hP hD hS hl) (fun h => kf (fun h2 => h (((i32_inj hx inR_0).mpr h2).trans i32_0.symm)) H locs ls hP hD hS hl)
theorem S_if_ne (X : Cx p s m args meth c D G A cc nL rt own) {x : Int} {off : Int} {tgt : Nat} (hdg : decode cc pc = .ok (.ifCond .ne off, 3)) (ht : (pc : Int) + off = (tgt : Int)) (hx : inR x) (kt : ¬ x = 0 → S_ p l e R s m args below meth c Q D G A nL cells slots tgt L st ws) (kf : x = 0 → S_ p l e R s m args below meth c Q D G A nL cells slots (pc + 3) L st ws) : S_ p l e R s m args below meth c Q D G A nL cells slots pc L (iv x :: st) ws :=
  fun H locs ls hP hD hS hl => lv_if_ne X.1 X.2.1 hdg ht (fun h => kt (fun h2 => h (((i32_inj hx inR_0).mpr h2).trans i32_0.symm)) H locs ls hP hD hS hl) (fun h => kf ((i32_inj hx inR_0).mp ((by first | exact h | exact Decidable.not_not.mp h : i32 x = 0).trans i32_0)) H locs ls hP hD hS hl)
theorem S_if_lt (X : Cx p s m args meth c D G A cc nL rt own) {x : Int} {off : Int} {tgt : Nat} (hdg : decode cc pc = .ok (.ifCond .lt off, 3)) (ht : (pc : Int) + off = (tgt : Int)) (hx : inR x) (kt : x < 0 → S_ p l e R s m args below meth c Q D G A nL cells slots tgt L st ws) (kf : 0 ≤ x → S_ p l e R s m args below meth c Q D G A nL cells slots (pc + 3) L st ws) : S_ p l e R s m args below meth c Q D G A nL cells slots pc L (iv x :: st) ws :=
  fun H locs ls hP hD hS hl => lv_if_lt X.1 X.2.1 hdg ht (fun h => kt ((i32_lt hx inR_0).mp (by rw [← i32_0]; exact h)) H locs ls hP hD hS hl) (fun h => kf (Int.not_lt.mp (fun h2 => h (by rw [i32_0]; exact (i32_lt hx inR_0).mpr h2))) H locs ls hP hD hS hl)
theorem S_if_ge (X : Cx p s m args meth c D G A cc nL rt own) {x : Int} {off : Int} {tgt : Nat} (hdg : decode cc pc = .ok (.ifCond .ge off, 3)) (ht : (pc : Int) + off = (tgt : Int)) (hx : inR x) (kt : 0 ≤ x → S_ p l e R s m args below meth c Q D G A nL cells slots tgt L st ws) (kf : x < 0 → S_ p l e R s m args below meth c Q D G A nL cells slots (pc + 3) L st ws) : S_ p l e R s m args below meth c Q D G A nL cells slots pc L (iv x :: st) ws :=
  fun H locs ls hP hD hS hl => lv_if_ge X.1 X.2.1 hdg ht (fun h => kt ((i32_le inR_0 hx).mp (by rw [← i32_0]; exact h)) H locs ls hP hD hS hl) (fun h => kf (Int.not_le.mp (fun h2 => h (by rw [i32_0]; exact (i32_le inR_0 hx).mpr h2))) H locs ls hP hD hS hl)
theorem S_if_gt (X : Cx p s m args meth c D G A cc nL rt own) {x : Int} {off : Int} {tgt : Nat} (hdg : decode cc pc = .ok (.ifCond .gt off, 3)) (ht : (pc : Int) + off = (tgt : Int)) (hx : inR x) (kt : 0 < x → S_ p l e R s m args below meth c Q D G A nL cells slots tgt L st ws) (kf : x ≤ 0 → S_ p l e R s m args below meth c Q D G A nL cells slots (pc + 3) L st ws) : S_ p l e R s m args below meth c Q D G A nL cells slots pc L (iv x :: st) ws :=
  fun H locs ls hP hD hS hl => lv_if_gt X.1 X.2.1 hdg ht (fun h => kt ((i32_lt inR_0 hx).mp (by rw [← i32_0]; exact h)) H locs ls hP hD hS hl) (fun h => kf (Int.not_lt.mp (fun h2 => h (by rw [i32_0]; exact (i32_lt inR_0 hx).mpr h2))) H locs ls hP hD hS hl)
theorem S_if_le (X : Cx p s m args meth c D G A cc nL rt own) {x : Int} {off : Int} {tgt : Nat} (hdg : decode cc pc = .ok (.ifCond .le off, 3)) (ht : (pc : Int) + off = (tgt : Int)) (hx : inR x) (kt : x ≤ 0 → S_ p l e R s m args below meth c Q D G A nL cells slots tgt L st ws) (kf : 0 < x → S_ p l e R s m args below meth c Q D G A nL cells slots (pc + 3) L st ws) : S_ p l e R s m args below meth c Q D G A nL cells slots pc L (iv x :: st) ws :=
  fun H locs ls hP hD hS hl => lv_if_le X.1 X.2.1 hdg ht (fun h => kt ((i32_le hx inR_0).mp (by rw [← i32_0]; exact h)) H locs ls hP hD hS hl) (fun h => kf (Int.not_le.mp (fun h2 => h (by rw [i32_0]; exact (i32_le hx inR_0).mpr h2))) H locs ls hP hD hS hl)
theorem S_ifnull (X : Cx p s m args meth c D G A cc nL rt own) {r : Option Nat} {off : Int} {tgt : Nat} (hdg : decode cc pc = .ok (.ifnull off, 3)) (ht : (pc : Int) + off = (tgt : Int)) (kt : r = none → S_ p l e R s m args below meth c Q D G A nL cells slots tgt L st ws) (kf : ∀ a, r = some a → S_ p l e R s m args below meth c Q D G A nL cells slots (pc + 3) L st ws) : S_ p l e R s m args below meth c Q D G A nL cells slots pc L (.inr r :: st) ws := by
  intro H locs ls hP hD hS hl
  cases r with
  | none => exact lv_ifnullN X.1 X.2.1 hdg ht (kt rfl H locs ls hP hD hS hl)
  | some a => exact lv_ifnull X.1 X.2.1 hdg (kf a rfl H locs ls hP hD hS hl)
theorem S_ifnonnull (X : Cx p s m args meth c D G A cc nL rt own) {r : Option Nat} {off : Int} {tgt : Nat} (hdg : decode cc pc = .ok (.ifnonnull off, 3)) (ht : (pc : Int) + off = (tgt : Int)) (kt : ∀ a, r = some a → S_ p l e R s m args below meth c Q D G A nL cells slots tgt L st ws) (kf : r = none → S_ p l e R s m args below meth c Q D G A nL cells slots (pc + 3) L st ws) : S_ p l e R s m args below meth c Q D G A nL cells slots pc L (.inr r :: st) ws := by
  intro H locs ls hP hD hS hl
  cases r with
  | none => exact lv_ifnonnullN X.1 X.2.1 hdg (kf rfl H locs ls hP hD hS hl)
  | some a => exact lv_ifnonnull X.1 X.2.1 hdg ht (kt a rfl H locs ls hP hD hS hl)
theorem S_iald (X : Cx p s m args meth c D G A cc nL rt own) (q0 : Nat) {a n : Nat} {g : Int → Int} {z : Int} (ha : ws[q0]? = some (a, ar n g)) (h0 : 0 ≤ z) (h1 : z < n) (hn : n ≤ 2147483647) (hdg : decode cc pc = .ok (.iaload, 1)) (k : S_ p l e R s m args below meth c Q D G A nL cells slots (pc + 1) L (iv (g z) :: st) ws) : S_ p l e R s m args below meth c Q D G A nL cells slots pc L (iv z :: rv a :: st) ws := by
  intro H locs ls hP hD hS hl
  refine va_iald X.1 X.2.1 X.2.2.2.2.2.1 hP q0 0 (tW_at ha) rfl (i32_vp h0 h1 hn) hdg ?_
  have h3 := k H locs ls hP hD hS hl
  have e1 : i32 (g (((i32 z).toNatClampNeg : Nat) : Int)) = i32 (g z) := by
    rw [i32_nat h0 ⟨by omega, by omega⟩, Int.toNat_of_nonneg h0]
  show W p l e R s m args below meth c H locs cells slots Q (F0 m (pc + 1) ls (Value.int (i32 (g (((i32 z).toNatClampNeg : Nat) : Int))) :: _))
  rw [e1]
  exact h3
theorem S_iast (X : Cx p s m args meth c D G A cc nL rt own) (q0 : Nat) {a n : Nat} {g : Int → Int} {z x : Int} (ha : ws[q0]? = some (a, ar n g)) (h0 : 0 ≤ z) (h1 : z < n) (hn : n ≤ 2147483647) (hdg : decode cc pc = .ok (.iastore, 1)) (k : S_ p l e R s m args below meth c Q D G A nL cells slots (pc + 1) L st (ws.set q0 (a, ar n (uZ g z x)))) : S_ p l e R s m args below meth c Q D G A nL cells slots pc L (iv x :: iv z :: rv a :: st) ws := by
  intro H locs ls hP hD hS hl
  refine va_iast X.1 X.2.1 X.2.2.2.2.2.1 hP hD hS q0 0 (tW_at ha) rfl (i32_vp h0 h1 hn) hdg (fun H1 locs1 hP1 hD1 hS1 => ?_)
  have e1 : (tW G ws).set q0 (a, .inl (G.1, n, .inl (upd (fun j : Nat => i32 (g (j : Int))) (i32 z).toNatClampNeg (i32 x)))) = tW G (ws.set q0 (a, ar n (uZ g z x))) := by
    rw [i32_nat h0 ⟨by omega, by omega⟩, upd_i32 h0]
    exact tW_set (x := ar n (uZ g z x))
  rw [e1] at hP1 hD1
  exact k H1 locs1 ls hP1 hD1 hS1 hl
theorem S_alen (X : Cx p s m args meth c D G A cc nL rt own) (q0 : Nat) {a n : Nat} {g : Int → Int} (ha : ws[q0]? = some (a, ar n g)) (hdg : decode cc pc = .ok (.arraylength, 1)) (k : S_ p l e R s m args below meth c Q D G A nL cells slots (pc + 1) L (iv (n : Int) :: st) ws) : S_ p l e R s m args below meth c Q D G A nL cells slots pc L (rv a :: st) ws := by
  intro H locs ls hP hD hS hl
  exact va_alen X.1 X.2.1 X.2.2.2.2.2.1 hP q0 0 (tW_at ha) rfl (v := i32 (n : Int)) rfl hdg (k H locs ls hP hD hS hl)
theorem S_aald (X : Cx p s m args meth c D G A cc nL rt own) (q0 : Nat) {a n : Nat} {g : Int → Option Nat} {z : Int} (ha : ws[q0]? = some (a, aq n g)) (h0 : 0 ≤ z) (h1 : z < n) (hn : n ≤ 2147483647) (hdg : decode cc pc = .ok (.aaload, 1)) (k : S_ p l e R s m args below meth c Q D G A nL cells slots (pc + 1) L (.inr (g z) :: st) ws) : S_ p l e R s m args below meth c Q D G A nL cells slots pc L (iv z :: rv a :: st) ws := by
  intro H locs ls hP hD hS hl
  refine va_aldq X.1 X.2.1 X.2.2.2.2.2.1 hP q0 1 (tW_at ha) rfl (i32_vp h0 h1 hn) hdg ?_
  have h3 := k H locs ls hP hD hS hl
  have e1 : g (((i32 z).toNatClampNeg : Nat) : Int) = g z := by
    rw [i32_nat h0 ⟨by omega, by omega⟩, Int.toNat_of_nonneg h0]
  show W p l e R s m args below meth c H locs cells slots Q (F0 m (pc + 1) ls (va_rf (g (((i32 z).toNatClampNeg : Nat) : Int)) :: _))
  rw [e1]
  exact h3
end SR
