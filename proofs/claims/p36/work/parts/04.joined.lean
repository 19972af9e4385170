/- 04.rows.lean.txt -/
section pt_04rows
/-! WORDS OF THE TABLES that may go with every method; what never changes (nest words, two static tables) -/
def ncM : MethodName := ⟨"BorrowedBeat$Reader", "nextClause", "()Z"⟩
/-- a private method of an abstract class, called on an object of a class below it: it is itself selected -/
def exW : List Cond := [Cond.selects "BorrowedBeat$LawReader" ncM ncM, Cond.selects "BorrowedBeat$TownReader" ncM ncM]
def uw : List Cond := (lw_tbl ++ exW).filter goodWord
def nW (w : Cond) : Bool := match w with
  | .methodLinkNest _ _ _ _ => true
  | .declares _ => true
  | .arrayOver (.object _) => true
  | .castable _ _ => true
  | _ => false
def nw : List Cond := lw_tbl.filter nW
theorem uw_good : GoodIn uw uw := fun w h => ⟨h, good_of_word (List.mem_filter.mp h).2⟩
theorem uw_goods {ws : List Cond} (h : ∀ w ∈ ws, w ∈ uw) : GoodIn uw ws := fun w hw => uw_good w (h w hw)
def fTL (j : Nat) : Value := .int (i32 ([1, 0, 0, 0, 0].getD j 0))
def fTM (j : Nat) : Value := .int (i32 ([99, 9, 3, 5, 10].getD j 0))
def Ev (A : Nat → Prop) (U : State) (H : Heap) : Prop := (∀ w ∈ nw, va_Nw w U) ∧ ∃ tL tM : Nat, va_Z "BorrowedBeat$TownReader" "LEAST" "[I" (.ref tL) A U H ∧ va_T .int tL 5 fTL A U H ∧ va_Z "BorrowedBeat$TownReader" "MOST" "[I" (.ref tM) A U H ∧ va_T .int tM 5 fTM A U H
theorem nw_nest {w : Cond} (h : w ∈ nw) : (∃ a i x b, w = .methodLinkNest a i x b) ∨ (∃ x, w = .declares x) ∨ (∃ C, w = .arrayOver (.object C)) ∨ ∃ a b, w = .castable a b := by
  have h2 := (List.mem_filter.mp h).2
  unfold nW at h2
  split at h2
  · exact Or.inl ⟨_, _, _, _, rfl⟩
  · exact Or.inr (Or.inl ⟨_, rfl⟩)
  · exact Or.inr (Or.inr (Or.inl ⟨_, rfl⟩))
  · exact Or.inr (Or.inr (Or.inr ⟨_, _, rfl⟩))
  · cases h2
theorem Ev.go {A B : Nat → Prop} {s U : State} {H : Heap} (h : Ev A s s.heap) (hW : s.WarmedH U.vm) (hk : ∀ a : Nat, a < s.heap.size → ¬ A a → H[a]? = s.heap[a]?) (hAB : ∀ q, B q → A q) : Ev B U H := by
  obtain ⟨h1, tL, tM, h2, h3, h4, h5⟩ := h
  refine ⟨fun w hw => ?_, tL, tM, ((h2.kept hk).moved hW.alike).narrow hAB, ((h3.kept hk).moved hW.alike).narrow hAB, ((h4.kept hk).moved hW.alike).narrow hAB, ((h5.kept hk).moved hW.alike).narrow hAB⟩
  rcases nw_nest hw with ⟨a, i, x, b, rfl⟩ | ⟨x, rfl⟩ | ⟨C, rfl⟩ | ⟨a, b, rfl⟩
  · exact va_Nw.warmM hW (h1 _ hw)
  · exact va_Nw.warmD hW (h1 _ hw)
  · exact va_AO.moved hW.alike (h1 _ hw)
  · exact va_Nw.warmC hW (h1 _ hw)
theorem Ev.same {A : Nat → Prop} {u U : State} {H : Heap} (h : Ev A u H) (hvm : u.vm = U.vm) : Ev A U H := by
  obtain ⟨h1, tL, tM, h2, h3, h4, h5⟩ := h
  have hal : u.vm.Alike U.vm := by rw [hvm]; exact Vm.Alike.refl _
  refine ⟨fun w hw => ?_, tL, tM, h2.moved hal, h3.moved hal, h4.moved hal, h5.moved hal⟩
  rcases nw_nest hw with ⟨a, i, x, b, rfl⟩ | ⟨x, rfl⟩ | ⟨C, rfl⟩ | ⟨a, b, rfl⟩
  · exact va_Nw.same rfl hvm (h1 _ hw)
  · exact va_Nw.same rfl hvm (h1 _ hw)
  · exact va_AO.moved hal (h1 _ hw)
  · exact va_Nw.same rfl hvm (h1 _ hw)
def S_ (p : Program) (l : Launch) (e : Env) (R : Room) (s : State) (m : MethodId) (args : Array Value) (below : List Frame) (meth : Method) (c : Code) (Q : State → Prop) (D : va_G) (G : GG) (A : Nat → Prop) (nL cells slots pc : Nat) (L : Nat → Option AV) (st : List AV) (ws : EW) : Prop :=
  ∀ (H : Heap) (locs : List Loc) (ls : Array Slot), va_P D vwCl (tW G ws) H → va_D A (tW G ws) → va_S A s.heap H locs → LH ls nL L → W p l e R s m args below meth c H locs cells slots Q (F0 m pc ls (st.map tV))
def Cx (p : Program) (s : State) (m : MethodId) (args : Array Value) (meth : Method) (c : Code) (D : va_G) (G : GG) (A : Nat → Prop) (cc : ByteArray) (nL : Nat) (rt : Option FieldType) (own : String) : Prop :=
  p.tables.exec = Jvm.exec ∧ c.code = cc ∧ c.maxLocals = nL ∧ s.vm.findClass own = some m.cls ∧ (∀ w ∈ uw, w.before args s = true) ∧ va_K D vwCl (tyG G) s ∧ (∀ q : Nat, s.heap.size ≤ q → A q) ∧ Ev A s s.heap ∧ meth.sig.returnType = rt ∧ meth.locks = false
def lL (nL : Nat) (L : Nat → Option AV) : List (Nat × Value) := (List.range nL).filterMap (fun i => (L i).map (fun v => (i, tV v)))
theorem LH.lt {ls : Array Slot} {nL : Nat} {L : Nat → Option AV} (h : LH ls nL L) {i : Nat} {v : AV} (hv : L i = some v) : i < nL := by
  have h1 := h.2.2 i v hv
  rw [← h.1]
  exact (Array.getElem?_eq_some_iff.mp h1).1
theorem mem_lL {nL : Nat} {L : Nat → Option AV} {i : Nat} {v : AV} (hi : i < nL) (hv : L i = some v) : (i, tV v) ∈ lL nL L :=
  List.mem_filterMap.mpr ⟨i, List.mem_range.mpr hi, by rw [hv]; rfl⟩
theorem of_lL {nL : Nat} {L : Nat → Option AV} {q : Nat × Value} (h : q ∈ lL nL L) : ∃ v, L q.1 = some v ∧ q.2 = tV v := by
  obtain ⟨i, -, h2⟩ := List.mem_filterMap.mp h
  cases hL : L i with
  | none => rw [hL] at h2; cases h2
  | some v => rw [hL] at h2; cases h2; exact ⟨v, hL, rfl⟩
theorem LH.has {ls : Array Slot} {nL : Nat} {L : Nat → Option AV} (h : LH ls nL L) : lv_has ls nL (lL nL L) := by
  refine ⟨h.1, h.2.1, fun q hq => ?_⟩
  obtain ⟨v, h1, h2⟩ := of_lL hq
  rw [h2]
  exact h.2.2 _ _ h1
theorem tV_cat (v : AV) : (tV v).category = 1 := by
  rcases v with z | r
  · rfl
  · cases r <;> rfl
theorem LH.st {ls' : Array Slot} {nL i : Nat} {L : Nat → Option AV} {v : AV} (hn : ∀ (j : Nat) (w : AV), L j = some w → j < nL) (h : lv_has ls' nL ((i, tV v) :: (lL nL L).filter (fun q => !(q.1 == i) && !(q.1 + 1 == i && q.2.category == 2)))) : LH ls' nL (uF L i (some v)) := by
  refine ⟨h.1, h.2.1, fun j w hw => ?_⟩
  unfold uF at hw
  by_cases hj : j = i
  · rw [if_pos hj] at hw
    cases hw
    rw [hj]
    exact h.2.2 _ List.mem_cons_self
  · rw [if_neg hj] at hw
    refine h.2.2 (j, tV w) (List.mem_cons_of_mem _ (List.mem_filter.mpr ⟨mem_lL (hn j w hw) hw, ?_⟩))
    simp [hj, tV_cat]
theorem tW_at {G : GG} {ws : EW} {k a : Nat} {x : EE} (h : ws[k]? = some (a, x)) : (tW G ws)[k]? = some (a, tE G x) := by
  unfold tW
  rw [List.getElem?_map, h]
  rfl
theorem tW_set {G : GG} {ws : EW} {k a : Nat} {x : EE} : (tW G ws).set k (a, tE G x) = tW G (ws.set k (a, x)) := by
  unfold tW
  rw [List.map_set]
theorem tF_at {n k : Nat} {f : Nat → AV} (hk : k < n) : ((List.range n).map (fun k => tV (f k)))[k]? = some (tV (f k)) := by
  rw [List.getElem?_map, List.getElem?_range hk]
  rfl
theorem tF_set {n k : Nat} {f : Nat → AV} {v : AV} : ((List.range n).map (fun k => tV (f k))).set k (tV v) = (List.range n).map (fun j => tV (uF f k v j)) := by
  apply List.ext_getElem?
  intro j
  rw [List.getElem?_set]
  simp only [List.getElem?_map, List.length_map, List.length_range]
  unfold uF
  by_cases hj : k = j
  · subst hj
    by_cases hk : k < n
    · simp [hk]
    · simp [hk]
  · have hj' : ¬ j = k := fun h => hj h.symm
    by_cases hk : j < n
    · simp [hj, hj', hk]
    · simp [hj, hk]
section SR
variable {p : Program} {l : Launch} {e : Env} {R : Room} {s : State} {m : MethodId} {args : Array Value} {below : List Frame} {meth : Method} {c : Code} {Q : State → Prop} {D : va_G} {G : GG} {A : Nat → Prop} {cc : ByteArray} {nL cells slots pc : Nat} {rt : Option FieldType} {own : String} {L : Nat → Option AV} {st : List AV} {ws : EW}
theorem S_w {ws' : EW} (h : ws = ws') (k : S_ p l e R s m args below meth c Q D G A nL cells slots pc L st ws') : S_ p l e R s m args below meth c Q D G A nL cells slots pc L st ws := h ▸ k
theorem S_st {st' : List AV} (h : st = st') (k : S_ p l e R s m args below meth c Q D G A nL cells slots pc L st' ws) : S_ p l e R s m args below meth c Q D G A nL cells slots pc L st ws := h ▸ k
theorem S_L {L' : Nat → Option AV} (h : ∀ i v, L' i = some v → L i = some v) (k : S_ p l e R s m args below meth c Q D G A nL cells slots pc L' st ws) : S_ p l e R s m args below meth c Q D G A nL cells slots pc L st ws :=
  fun H locs ls hP hD hS hl => k H locs ls hP hD hS ⟨hl.1, hl.2.1, fun i v hv => hl.2.2 i v (h i v hv)⟩
theorem S_iconst (X : Cx p s m args meth c D G A cc nL rt own) {n : Int} (hdg : decode cc pc = .ok (.iconst n, 1)) (k : S_ p l e R s m args below meth c Q D G A nL cells slots (pc + 1) L (iv n :: st) ws) : S_ p l e R s m args below meth c Q D G A nL cells slots pc L st ws :=
  fun H locs ls hP hD hS hl => lv_iconst X.1 X.2.1 hdg rfl (k H locs ls hP hD hS hl)
theorem S_bipush (X : Cx p s m args meth c D G A cc nL rt own) {n : Int} (hdg : decode cc pc = .ok (.bipush n, 2)) (hv : (Int8.ofInt n).toInt32 = i32 n) (k : S_ p l e R s m args below meth c Q D G A nL cells slots (pc + 2) L (iv n :: st) ws) : S_ p l e R s m args below meth c Q D G A nL cells slots pc L st ws :=
  fun H locs ls hP hD hS hl => lv_bipush X.1 X.2.1 hdg hv (k H locs ls hP hD hS hl)
theorem S_sipush (X : Cx p s m args meth c D G A cc nL rt own) {n : Int} (hdg : decode cc pc = .ok (.sipush n, 3)) (hv : (Int16.ofInt n).toInt32 = i32 n) (k : S_ p l e R s m args below meth c Q D G A nL cells slots (pc + 3) L (iv n :: st) ws) : S_ p l e R s m args below meth c Q D G A nL cells slots pc L st ws :=
  fun H locs ls hP hD hS hl => lv_sipush X.1 X.2.1 hdg hv (k H locs ls hP hD hS hl)
theorem S_ldc (X : Cx p s m args meth c D G A cc nL rt own) {index : Nat} {n : Int} (hw : Cond.constant own index (i32 n) ∈ uw) (hdg : decode cc pc = .ok (.ldc index, 2)) (k : S_ p l e R s m args below meth c Q D G A nL cells slots (pc + 2) L (iv n :: st) ws) : S_ p l e R s m args below meth c Q D G A nL cells slots pc L st ws :=
  fun H locs ls hP hD hS hl => lv_ldc X.1 X.2.1 X.2.2.2.1 (X.2.2.2.2.1 _ hw) hdg (k H locs ls hP hD hS hl)
theorem S_iload_n (X : Cx p s m args meth c D G A cc nL rt own) {k : Fin 4} {i : Nat} {z : Int} (hdg : decode cc pc = .ok (.iload_n k, 1)) (hi : (k : Nat) = i) (hL : L i = some (iv z)) (kk : S_ p l e R s m args below meth c Q D G A nL cells slots (pc + 1) L (iv z :: st) ws) : S_ p l e R s m args below meth c Q D G A nL cells slots pc L st ws :=
  fun H locs ls hP hD hS hl => lv_iload_n X.1 X.2.1 hdg hi (hl.2.2 _ _ hL) (kk H locs ls hP hD hS hl)
theorem S_iload (X : Cx p s m args meth c D G A cc nL rt own) {i : Nat} {z : Int} (hdg : decode cc pc = .ok (.iload i, 2)) (hL : L i = some (iv z)) (kk : S_ p l e R s m args below meth c Q D G A nL cells slots (pc + 2) L (iv z :: st) ws) : S_ p l e R s m args below meth c Q D G A nL cells slots pc L st ws :=
  fun H locs ls hP hD hS hl => lv_iload X.1 X.2.1 hdg (hl.2.2 _ _ hL) (kk H locs ls hP hD hS hl)
theorem S_aload_n (X : Cx p s m args meth c D G A cc nL rt own) {k : Fin 4} {i : Nat} {a : Nat} (hdg : decode cc pc = .ok (.aload_n k, 1)) (hi : (k : Nat) = i) (hL : L i = some (rv a)) (kk : S_ p l e R s m args below meth c Q D G A nL cells slots (pc + 1) L (rv a :: st) ws) : S_ p l e R s m args below meth c Q D G A nL cells slots pc L st ws :=
  fun H locs ls hP hD hS hl => lv_aload_n X.1 X.2.1 hdg hi (hl.2.2 _ _ hL) (kk H locs ls hP hD hS hl)
theorem S_aload_nN (X : Cx p s m args meth c D G A cc nL rt own) {k : Fin 4} {i : Nat} (hdg : decode cc pc = .ok (.aload_n k, 1)) (hi : (k : Nat) = i) (hL : L i = some nv) (kk : S_ p l e R s m args below meth c Q D G A nL cells slots (pc + 1) L (nv :: st) ws) : S_ p l e R s m args below meth c Q D G A nL cells slots pc L st ws :=
  fun H locs ls hP hD hS hl => lv_aload_nN X.1 X.2.1 hdg hi (hl.2.2 _ _ hL) (kk H locs ls hP hD hS hl)
theorem S_aload (X : Cx p s m args meth c D G A cc nL rt own) {i : Nat} {a : Nat} (hdg : decode cc pc = .ok (.aload i, 2)) (hL : L i = some (rv a)) (kk : S_ p l e R s m args below meth c Q D G A nL cells slots (pc + 2) L (rv a :: st) ws) : S_ p l e R s m args below meth c Q D G A nL cells slots pc L st ws :=
  fun H locs ls hP hD hS hl => lv_aload X.1 X.2.1 hdg (hl.2.2 _ _ hL) (kk H locs ls hP hD hS hl)
theorem S_istore_n (X : Cx p s m args meth c D G A cc nL rt own) {k : Fin 4} {i : Nat} {z : Int} (hdg : decode cc pc = .ok (.istore_n k, 1)) (hi : (k : Nat) = i) (hn : i < nL) (kk : S_ p l e R s m args below meth c Q D G A nL cells slots (pc + 1) (uF L i (some (iv z))) st ws) : S_ p l e R s m args below meth c Q D G A nL cells slots pc L (iv z :: st) ws :=
  fun H locs ls hP hD hS hl => lv_istore_n X.1 X.2.1 hdg hi hl.has hn rfl (fun ls' hl' => kk H locs ls' hP hD hS (LH.st (v := iv z) (fun j w hw => hl.lt hw) hl'))
theorem S_istore (X : Cx p s m args meth c D G A cc nL rt own) {i : Nat} {z : Int} (hdg : decode cc pc = .ok (.istore i, 2)) (hn : i < nL) (kk : S_ p l e R s m args below meth c Q D G A nL cells slots (pc + 2) (uF L i (some (iv z))) st ws) : S_ p l e R s m args below meth c Q D G A nL cells slots pc L (iv z :: st) ws :=
  fun H locs ls hP hD hS hl => lv_istore X.1 X.2.1 hdg hl.has hn rfl (fun ls' hl' => kk H locs ls' hP hD hS (LH.st (v := iv z) (fun j w hw => hl.lt hw) hl'))
theorem S_astore_n (X : Cx p s m args meth c D G A cc nL rt own) {k : Fin 4} {i : Nat} {a : Nat} (hdg : decode cc pc = .ok (.astore_n k, 1)) (hi : (k : Nat) = i) (hn : i < nL) (kk : S_ p l e R s m args below meth c Q D G A nL cells slots (pc + 1) (uF L i (some (rv a))) st ws) : S_ p l e R s m args below meth c Q D G A nL cells slots pc L (rv a :: st) ws :=
  fun H locs ls hP hD hS hl => lv_astore_n X.1 X.2.1 hdg hi hl.has hn rfl (fun ls' hl' => kk H locs ls' hP hD hS (LH.st (v := rv a) (fun j w hw => hl.lt hw) hl'))
theorem S_astore (X : Cx p s m args meth c D G A cc nL rt own) {i : Nat} {a : Nat} (hdg : decode cc pc = .ok (.astore i, 2)) (hn : i < nL) (kk : S_ p l e R s m args below meth c Q D G A nL cells slots (pc + 2) (uF L i (some (rv a))) st ws) : S_ p l e R s m args below meth c Q D G A nL cells slots pc L (rv a :: st) ws :=
  fun H locs ls hP hD hS hl => lv_astore X.1 X.2.1 hdg hl.has hn rfl (fun ls' hl' => kk H locs ls' hP hD hS (LH.st (v := rv a) (fun j w hw => hl.lt hw) hl'))
theorem S_iinc (X : Cx p s m args meth c D G A cc nL rt own) {i : Nat} {n z : Int} (hdg : decode cc pc = .ok (.iinc i n, 3)) (hn : i < nL) (hL : L i = some (iv z)) (kk : S_ p l e R s m args below meth c Q D G A nL cells slots (pc + 3) (uF L i (some (iv (z + n)))) st ws) : S_ p l e R s m args below meth c Q D G A nL cells slots pc L st ws := by
  intro H locs ls hP hD hS hl
  obtain ⟨k, hk⟩ := List.getElem?_of_mem (mem_lL (hl.lt hL) hL)
  exact lv_iinc X.1 X.2.1 hdg hl.has hk (i32_add z n) hn rfl (fun ls' hl' => kk H locs ls' hP hD hS (LH.st (v := iv (z + n)) (fun j w hw => hl.lt hw) hl'))
theorem S_iadd (X : Cx p s m args meth c D G A cc nL rt own) {x y : Int} (hdg : decode cc pc = .ok (.iadd, 1)) (k : S_ p l e R s m args below meth c Q D G A nL cells slots (pc + 1) L (iv (x + y) :: st) ws) : S_ p l e R s m args below meth c Q D G A nL cells slots pc L (iv y :: iv x :: st) ws :=
  fun H locs ls hP hD hS hl => lv_iadd X.1 X.2.1 hdg (by rw [i32_add]; exact k H locs ls hP hD hS hl)
theorem S_isub (X : Cx p s m args meth c D G A cc nL rt own) {x y : Int} (hdg : decode cc pc = .ok (.isub, 1)) (k : S_ p l e R s m args below meth c Q D G A nL cells slots (pc + 1) L (iv (x - y) :: st) ws) : S_ p l e R s m args below meth c Q D G A nL cells slots pc L (iv y :: iv x :: st) ws :=
  fun H locs ls hP hD hS hl => lv_isub X.1 X.2.1 hdg (by rw [i32_sub]; exact k H locs ls hP hD hS hl)
theorem S_imul (X : Cx p s m args meth c D G A cc nL rt own) {x y : Int} (hdg : decode cc pc = .ok (.imul, 1)) (k : S_ p l e R s m args below meth c Q D G A nL cells slots (pc + 1) L (iv (x * y) :: st) ws) : S_ p l e R s m args below meth c Q D G A nL cells slots pc L (iv y :: iv x :: st) ws :=
  fun H locs ls hP hD hS hl => lv_imul X.1 X.2.1 hdg (by rw [i32_mul]; exact k H locs ls hP hD hS hl)
theorem S_ineg (X : Cx p s m args meth c D G A cc nL rt own) {x : Int} (hdg : decode cc pc = .ok (.ineg, 1)) (k : S_ p l e R s m args below meth c Q D G A nL cells slots (pc + 1) L (iv (-x) :: st) ws) : S_ p l e R s m args below meth c Q D G A nL cells slots pc L (iv x :: st) ws :=
  fun H locs ls hP hD hS hl => lv_ineg X.1 X.2.1 hdg (by rw [i32_neg]; exact k H locs ls hP hD hS hl)
theorem S_idiv (X : Cx p s m args meth c D G A cc nL rt own) {x y : Int} (hx : inR x) (hy : inR y) (h0 : y ≠ 0) (hdg : decode cc pc = .ok (.idiv, 1)) (k : S_ p l e R s m args below meth c Q D G A nL cells slots (pc + 1) L (iv (x.tdiv y) :: st) ws) : S_ p l e R s m args below meth c Q D G A nL cells slots pc L (iv y :: iv x :: st) ws :=
  fun H locs ls hP hD hS hl => lv_idiv X.1 X.2.1 hdg (fun h => h0 ((i32_inj hy inR_0).mp (h.trans i32_0))) (by rw [i32_div hx hy]; exact k H locs ls hP hD hS hl)
theorem S_irem (X : Cx p s m args meth c D G A cc nL rt own) {x y : Int} (hx : inR x) (hy : inR y) (h0 : y ≠ 0) (hdg : decode cc pc = .ok (.irem, 1)) (k : S_ p l e R s m args below meth c Q D G A nL cells slots (pc + 1) L (iv (x.tmod y) :: st) ws) : S_ p l e R s m args below meth c Q D G A nL cells slots pc L (iv y :: iv x :: st) ws :=
  fun H locs ls hP hD hS hl => lv_irem X.1 X.2.1 hdg (fun h => h0 ((i32_inj hy inR_0).mp (h.trans i32_0))) (by rw [i32_rem hx hy]; exact k H locs ls hP hD hS hl)
theorem S_dup (X : Cx p s m args meth c D G A cc nL rt own) {v : AV} (hdg : decode cc pc = .ok (.dup, 1)) (k : S_ p l e R s m args below meth c Q D G A nL cells slots (pc + 1) L (v :: v :: st) ws) : S_ p l e R s m args below meth c Q D G A nL cells slots pc L (v :: st) ws :=
  fun H locs ls hP hD hS hl => lv_dup X.1 X.2.1 hdg (tV_cat v) (k H locs ls hP hD hS hl)
theorem S_dup2 (X : Cx p s m args meth c D G A cc nL rt own) {v w : AV} (hdg : decode cc pc = .ok (.dup2, 1)) (k : S_ p l e R s m args below meth c Q D G A nL cells slots (pc + 1) L (v :: w :: v :: w :: st) ws) : S_ p l e R s m args below meth c Q D G A nL cells slots pc L (v :: w :: st) ws :=
  fun H locs ls hP hD hS hl => lv_dup2_11 X.1 X.2.1 hdg (tV_cat v) (tV_cat w) (k H locs ls hP hD hS hl)
theorem S_pop (X : Cx p s m args meth c D G A cc nL rt own) {v : AV} (hdg : decode cc pc = .ok (.pop, 1)) (k : S_ p l e R s m args below meth c Q D G A nL cells slots (pc + 1) L st ws) : S_ p l e R s m args below meth c Q D G A nL cells slots pc L (v :: st) ws :=
  fun H locs ls hP hD hS hl => lv_pop X.1 X.2.1 hdg (tV_cat v) (k H locs ls hP hD hS hl)
theorem S_goto (X : Cx p s m args meth c D G A cc nL rt own) {off : Int} {tgt : Nat} (hdg : decode cc pc = .ok (.goto off, 3)) (ht : (pc : Int) + off = (tgt : Int)) (k : S_ p l e R s m args below meth c Q D G A nL cells slots tgt L st ws) : S_ p l e R s m args below meth c Q D G A nL cells slots pc L st ws :=
  fun H locs ls hP hD hS hl => lv_goto X.1 X.2.1 hdg ht (k H locs ls hP hD hS hl)
theorem S_icmp_eq (X : Cx p s m args meth c D G A cc nL rt own) {x y : Int} {off : Int} {tgt : Nat} (hdg : decode cc pc = .ok (.if_icmp .eq off, 3)) (ht : (pc : Int) + off = (tgt : Int)) (hx : inR x) (hy : inR y) (kt : x = y → S_ p l e R s m args below meth c Q D G A nL cells slots tgt L st ws) (kf : ¬ x = y → S_ p l e R s m args below meth c Q D G A nL cells slots (pc + 3) L st ws) : S_ p l e R s m args below meth c Q D G A nL cells slots pc L (iv y :: iv x :: st) ws :=
  fun H locs ls hP hD hS hl => lv_icmp_eq X.1 X.2.1 hdg ht (fun h => kt ((i32_inj hx hy).mp h) H locs ls hP hD hS hl) (fun h => kf (fun h2 => h ((i32_inj hx hy).mpr h2)) H locs ls hP hD hS hl)
theorem S_icmp_ne (X : Cx p s m args meth c D G A cc nL rt own) {x y : Int} {off : Int} {tgt : Nat} (hdg : decode cc pc = .ok (.if_icmp .ne off, 3)) (ht : (pc : Int) + off = (tgt : Int)) (hx : inR x) (hy : inR y) (kt : ¬ x = y → S_ p l e R s m args below meth c Q D G A nL cells slots tgt L st ws) (kf : x = y → S_ p l e R s m args below meth c Q D G A nL cells slots (pc + 3) L st ws) : S_ p l e R s m args below meth c Q D G A nL cells slots pc L (iv y :: iv x :: st) ws :=
  fun H locs ls hP hD hS hl => lv_icmp_ne X.1 X.2.1 hdg ht (fun h => kt (fun h2 => h ((i32_inj hx hy).mpr h2)) H locs ls hP hD hS hl) (fun h => kf (by first | exact (i32_inj hx hy).mp h | exact (i32_inj hx hy).mp (Decidable.not_not.mp h)) H locs ls hP hD hS hl)
theorem S_icmp_lt (X : Cx p s m args meth c D G A cc nL rt own) {x y : Int} {off : Int} {tgt : Nat} (hdg : decode cc pc = .ok (.if_icmp .lt off, 3)) (ht : (pc : Int) + off = (tgt : Int)) (hx : inR x) (hy : inR y) (kt : x < y → S_ p l e R s m args below meth c Q D G A nL cells slots tgt L st ws) (kf : y ≤ x → S_ p l e R s m args below meth c Q D G A nL cells slots (pc + 3) L st ws) : S_ p l e R s m args below meth c Q D G A nL cells slots pc L (iv y :: iv x :: st) ws :=
  fun H locs ls hP hD hS hl => lv_icmp_lt X.1 X.2.1 hdg ht (fun h => kt ((i32_lt hx hy).mp h) H locs ls hP hD hS hl) (fun h => kf (Int.not_lt.mp (fun h2 => h ((i32_lt hx hy).mpr h2))) H locs ls hP hD hS hl)
theorem S_icmp_ge (X : Cx p s m args meth c D G A cc nL rt own) {x y : Int} {off : Int} {tgt : Nat} (hdg : decode cc pc = .ok (.if_icmp .ge off, 3)) (ht : (pc : Int) + off = (tgt : Int)) (hx : inR x) (hy : inR y) (kt : y ≤ x → S_ p l e R s m args below meth c Q D G A nL cells slots tgt L st ws) (kf : x < y → S_ p l e R s m args below meth c Q D G A nL cells slots (pc + 3) L st ws) : S_ p l e R s m args below meth c Q D G A nL cells slots pc L (iv y :: iv x :: st) ws :=
  fun H locs ls hP hD hS hl => lv_icmp_ge X.1 X.2.1 hdg ht (fun h => kt ((i32_le hy hx).mp h) H locs ls hP hD hS hl) (fun h => kf (Int.not_le.mp (fun h2 => h ((i32_le hy hx).mpr h2))) H locs ls hP hD hS hl)
theorem S_icmp_gt (X : Cx p s m args meth c D G A cc nL rt own) {x y : Int} {off : Int} {tgt : Nat} (hdg : decode cc pc = .ok (.if_icmp .gt off, 3)) (ht : (pc : Int) + off = (tgt : Int)) (hx : inR x) (hy : inR y) (kt : y < x → S_ p l e R s m args below meth c Q D G A nL cells slots tgt L st ws) (kf : x ≤ y → S_ p l e R s m args below meth c Q D G A nL cells slots (pc + 3) L st ws) : S_ p l e R s m args below meth c Q D G A nL cells slots pc L (iv y :: iv x :: st) ws :=
  fun H locs ls hP hD hS hl => lv_icmp_gt X.1 X.2.1 hdg ht (fun h => kt ((i32_lt hy hx).mp h) H locs ls hP hD hS hl) (fun h => kf (Int.not_lt.mp (fun h2 => h ((i32_lt hy hx).mpr h2))) H locs ls hP hD hS hl)
theorem S_icmp_le (X : Cx p s m args meth c D G A cc nL rt own) {x y : Int} {off : Int} {tgt : Nat} (hdg : decode cc pc = .ok (.if_icmp .le off, 3)) (ht : (pc : Int) + off = (tgt : Int)) (hx : inR x) (hy : inR y) (kt : x ≤ y → S_ p l e R s m args below meth c Q D G A nL cells slots tgt L st ws) (kf : y < x → S_ p l e R s m args below meth c Q D G A nL cells slots (pc + 3) L st ws) : S_ p l e R s m args below meth c Q D G A nL cells slots pc L (iv y :: iv x :: st) ws :=
  fun H locs ls hP hD hS hl => lv_icmp_le X.1 X.2.1 hdg ht (fun h => kt ((i32_le hx hy).mp h) H locs ls hP hD hS hl) (fun h => kf (Int.not_le.mp (fun h2 => h ((i32_le hx hy).mpr h2))) H locs ls hP hD hS hl)
theorem S_if_eq (X : Cx p s m args meth c D G A cc nL rt own) {x : Int} {off : Int} {tgt : Nat} (hdg : decode cc pc = .ok (.ifCond .eq off, 3)) (ht : (pc : Int) + off = (tgt : Int)) (hx : inR x) (kt : x = 0 → S_ p l e R s m args below meth c Q D G A nL cells slots tgt L st ws) (kf : ¬ x = 0 → S_ p l e R s m args below meth c Q D G A nL cells slots (pc + 3) L st ws) : S_ p l e R s m args below meth c Q D G A nL cells slots pc L (iv x :: st) ws :=
  fun H locs ls hP hD hS hl => lv_if_eq X.1 X.2.1 hdg ht (fun h => kt ((i32_inj hx inR_0).mp (h.trans i32_0)) H locs ls hP hD hS hl) (fun h => kf (fun h2 => h (((i32_inj hx inR_0).mpr h2).trans i32_0.symm)) H locs ls hP hD hS hl)
theorem S_if_ne (X : Cx p s m args meth c D G A cc nL rt own) {x : Int} {off : Int} {tgt : Nat} (hdg : decode cc pc = .ok (.ifCond .ne off, 3)) (ht : (pc : Int) + off = (tgt : Int)) (hx : inR x) (kt : ¬ x = 0 → S_ p l e R s m args below meth c Q D G A nL cells slots tgt L st ws) (kf : x = 0 → S_ p l e R s m args below meth c Q D G A nL cells slots (pc + 3) L st ws) : S_ p l e R s m args below meth c Q D G A nL cells slots pc L (iv x :: st) ws :=
  fun H locs ls hP hD hS hl => lv_if_ne X.1 X.2.1 hdg ht (fun h => kt (fun h2 => h (((i32_inj hx inR_0).mpr h2).trans i32_0.symm)) H locs ls hP hD hS hl) (fun h => kf ((i32_inj hx inR_0).mp ((by first | exact h | exact Decidable.not_not.mp h : i32 x = 0).trans i32_0)) H locs ls hP hD hS hl)
theorem S_if_lt (X : Cx p s m args meth c D G A cc nL rt own) {x : Int} {off : Int} {tgt : Nat} (hdg : decode cc pc = .ok (.ifCond .lt off, 3)) (ht : (pc : Int) + off = (tgt : Int)) (hx : inR x) (kt : x < 0 → S_ p l e R s m args below meth c Q D G A nL cells slots tgt L st ws) (kf : 0 ≤ x → S_ p l e R s m args below meth c Q D G A nL cells slots (pc + 3) L st ws) : S_ p l e R s m args below meth c Q D G A nL cells slots pc L (iv x :: st) ws :=
  fun H locs ls hP hD hS hl => lv_if_lt X.1 X.2.1 hdg ht (fun h => kt ((i32_lt hx inR_0).mp (by rw [← i32_0]; exact h)) H locs ls hP hD hS hl) (fun h => kf (Int.not_lt.mp (fun h2 => h (by rw [i32_0]; exact (i32_lt hx inR_0).mpr h2))) H locs ls hP hD hS hl)
theorem S_if_ge (X : Cx p s m args meth c D G A cc nL rt own) {x : Int} {off : Int} {tgt : Nat} (hdg : decode cc pc = .ok (.ifCond .ge off, 3)) (ht : (pc : Int) + off = (tgt : Int)) (hx : inR x) (kt : 0 ≤ x → S_ p l e R s m args below meth c Q D G A nL cells slots tgt L st ws) (kf : x < 0 → S_ p l e R s m args below meth c Q D G A nL cells slots (pc + 3) L st ws) : S_ p l e R s m args below meth c Q D G A nL cells slots pc L (iv x :: st) ws :=
  fun H locs ls hP hD hS hl => lv_if_ge X.1 X.2.1 hdg ht (fun h => kt ((i32_le inR_0 hx).mp (by rw [← i32_0]; exact h)) H locs ls hP hD hS hl) (fun h => kf (Int.not_le.mp (fun h2 => h (by rw [i32_0]; exact (i32_le inR_0 hx).mpr h2))) H locs ls hP hD hS hl)
theorem S_if_gt (X : Cx p s m args meth c D G A cc nL rt own) {x : Int} {off : Int} {tgt : Nat} (hdg : decode cc pc = .ok (.ifCond .gt off, 3)) (ht : (pc : Int) + off = (tgt : Int)) (hx : inR x) (kt : 0 < x → S_ p l e R s m args below meth c Q D G A nL cells slots tgt L st ws) (kf : x ≤ 0 → S_ p l e R s m args below meth c Q D G A nL cells slots (pc + 3) L st ws) : S_ p l e R s m args below meth c Q D G A nL cells slots pc L (iv x :: st) ws :=
  fun H locs ls hP hD hS hl => lv_if_gt X.1 X.2.1 hdg ht (fun h => kt ((i32_lt inR_0 hx).mp (by rw [← i32_0]; exact h)) H locs ls hP hD hS hl) (fun h => kf (Int.not_lt.mp (fun h2 => h (by rw [i32_0]; exact (i32_lt inR_0 hx).mpr h2))) H locs ls hP hD hS hl)
theorem S_if_le (X : Cx p s m args meth c D G A cc nL rt own) {x : Int} {off : Int} {tgt : Nat} (hdg : decode cc pc = .ok (.ifCond .le off, 3)) (ht : (pc : Int) + off = (tgt : Int)) (hx : inR x) (kt : x ≤ 0 → S_ p l e R s m args below meth c Q D G A nL cells slots tgt L st ws) (kf : 0 < x → S_ p l e R s m args below meth c Q D G A nL cells slots (pc + 3) L st ws) : S_ p l e R s m args below meth c Q D G A nL cells slots pc L (iv x :: st) ws :=
  fun H locs ls hP hD hS hl => lv_if_le X.1 X.2.1 hdg ht (fun h => kt ((i32_le hx inR_0).mp (by rw [← i32_0]; exact h)) H locs ls hP hD hS hl) (fun h => kf (Int.not_le.mp (fun h2 => h (by rw [i32_0]; exact (i32_le hx inR_0).mpr h2))) H locs ls hP hD hS hl)
theorem S_ifnull (X : Cx p s m args meth c D G A cc nL rt own) {r : Option Nat} {off : Int} {tgt : Nat} (hdg : decode cc pc = .ok (.ifnull off, 3)) (ht : (pc : Int) + off = (tgt : Int)) (kt : r = none → S_ p l e R s m args below meth c Q D G A nL cells slots tgt L st ws) (kf : ∀ a, r = some a → S_ p l e R s m args below meth c Q D G A nL cells slots (pc + 3) L st ws) : S_ p l e R s m args below meth c Q D G A nL cells slots pc L (.inr r :: st) ws := by
  intro H locs ls hP hD hS hl
  cases r with
  | none => exact lv_ifnullN X.1 X.2.1 hdg ht (kt rfl H locs ls hP hD hS hl)
  | some a => exact lv_ifnull X.1 X.2.1 hdg (kf a rfl H locs ls hP hD hS hl)
theorem S_ifnonnull (X : Cx p s m args meth c D G A cc nL rt own) {r : Option Nat} {off : Int} {tgt : Nat} (hdg : decode cc pc = .ok (.ifnonnull off, 3)) (ht : (pc : Int) + off = (tgt : Int)) (kt : ∀ a, r = some a → S_ p l e R s m args below meth c Q D G A nL cells slots tgt L st ws) (kf : r = none → S_ p l e R s m args below meth c Q D G A nL cells slots (pc + 3) L st ws) : S_ p l e R s m args below meth c Q D G A nL cells slots pc L (.inr r :: st) ws := by
  intro H locs ls hP hD hS hl
  cases r with
  | none => exact lv_ifnonnullN X.1 X.2.1 hdg (kf rfl H locs ls hP hD hS hl)
  | some a => exact lv_ifnonnull X.1 X.2.1 hdg ht (kt a rfl H locs ls hP hD hS hl)
theorem S_iald (X : Cx p s m args meth c D G A cc nL rt own) (q0 : Nat) {a n : Nat} {g : Int → Int} {z : Int} (ha : ws[q0]? = some (a, ar n g)) (h0 : 0 ≤ z) (h1 : z < n) (hn : n ≤ 2147483647) (hdg : decode cc pc = .ok (.iaload, 1)) (k : S_ p l e R s m args below meth c Q D G A nL cells slots (pc + 1) L (iv (g z) :: st) ws) : S_ p l e R s m args below meth c Q D G A nL cells slots pc L (iv z :: rv a :: st) ws := by
  intro H locs ls hP hD hS hl
  refine va_iald X.1 X.2.1 X.2.2.2.2.2.1 hP q0 0 (tW_at ha) rfl (i32_vp h0 h1 hn) hdg ?_
  have h3 := k H locs ls hP hD hS hl
  have e1 : i32 (g (((i32 z).toNatClampNeg : Nat) : Int)) = i32 (g z) := by
    rw [i32_nat h0 ⟨by omega, by omega⟩, Int.toNat_of_nonneg h0]
  show W p l e R s m args below meth c H locs cells slots Q (F0 m (pc + 1) ls (Value.int (i32 (g (((i32 z).toNatClampNeg : Nat) : Int))) :: _))
  rw [e1]
  exact h3
theorem S_iast (X : Cx p s m args meth c D G A cc nL rt own) (q0 : Nat) {a n : Nat} {g : Int → Int} {z x : Int} (ha : ws[q0]? = some (a, ar n g)) (h0 : 0 ≤ z) (h1 : z < n) (hn : n ≤ 2147483647) (hdg : decode cc pc = .ok (.iastore, 1)) (k : S_ p l e R s m args below meth c Q D G A nL cells slots (pc + 1) L st (ws.set q0 (a, ar n (uZ g z x)))) : S_ p l e R s m args below meth c Q D G A nL cells slots pc L (iv x :: iv z :: rv a :: st) ws := by
  intro H locs ls hP hD hS hl
  refine va_iast X.1 X.2.1 X.2.2.2.2.2.1 hP hD hS q0 0 (tW_at ha) rfl (i32_vp h0 h1 hn) hdg (fun H1 locs1 hP1 hD1 hS1 => ?_)
  have e1 : (tW G ws).set q0 (a, .inl (G.1, n, .inl (upd (fun j : Nat => i32 (g (j : Int))) (i32 z).toNatClampNeg (i32 x)))) = tW G (ws.set q0 (a, ar n (uZ g z x))) := by
    rw [i32_nat h0 ⟨by omega, by omega⟩, upd_i32 h0]
    exact tW_set (x := ar n (uZ g z x))
  rw [e1] at hP1 hD1
  exact k H1 locs1 ls hP1 hD1 hS1 hl
theorem S_alen (X : Cx p s m args meth c D G A cc nL rt own) (q0 : Nat) {a n : Nat} {g : Int → Int} (ha : ws[q0]? = some (a, ar n g)) (hdg : decode cc pc = .ok (.arraylength, 1)) (k : S_ p l e R s m args below meth c Q D G A nL cells slots (pc + 1) L (iv (n : Int) :: st) ws) : S_ p l e R s m args below meth c Q D G A nL cells slots pc L (rv a :: st) ws := by
  intro H locs ls hP hD hS hl
  exact va_alen X.1 X.2.1 X.2.2.2.2.2.1 hP q0 0 (tW_at ha) rfl (v := i32 (n : Int)) rfl hdg (k H locs ls hP hD hS hl)
theorem S_aald (X : Cx p s m args meth c D G A cc nL rt own) (q0 : Nat) {a n : Nat} {g : Int → Option Nat} {z : Int} (ha : ws[q0]? = some (a, aq n g)) (h0 : 0 ≤ z) (h1 : z < n) (hn : n ≤ 2147483647) (hdg : decode cc pc = .ok (.aaload, 1)) (k : S_ p l e R s m args below meth c Q D G A nL cells slots (pc + 1) L (.inr (g z) :: st) ws) : S_ p l e R s m args below meth c Q D G A nL cells slots pc L (iv z :: rv a :: st) ws := by
  intro H locs ls hP hD hS hl
  refine va_aldq X.1 X.2.1 X.2.2.2.2.2.1 hP q0 1 (tW_at ha) rfl (i32_vp h0 h1 hn) hdg ?_
  have h3 := k H locs ls hP hD hS hl
  have e1 : g (((i32 z).toNatClampNeg : Nat) : Int) = g z := by
    rw [i32_nat h0 ⟨by omega, by omega⟩, Int.toNat_of_nonneg h0]
  show W p l e R s m args below meth c H locs cells slots Q (F0 m (pc + 1) ls (va_rf (g (((i32 z).toNatClampNeg : Nat) : Int)) :: _))
  rw [e1]
  exact h3
end SR
end pt_04rows
/- 05.calls.lean.txt -/
section pt_05calls
/-! FIELDS: what the tables say of an access, once a place; CONTRACTS; CALLS -/
def FG (own : String) (index ci k : Nat) : Prop := ∃ (C : String) (T : u_T) (N : Nat) (ref : String), vwCl[ci]? = some (C, T, N) ∧ (∀ w ∈ u_ws C T N, w ∈ uw) ∧ k < N ∧ Cond.fieldLink own index ref (T k).2.1 (T k).2.2.1 ∈ uw ∧ (∀ (args : Array Value) (s : State), (∀ w ∈ uw, w.before args s = true) → ∀ x, s.fieldFound? (T k).1 (T k).2.1 (T k).2.2.1 = some x → s.fieldFound? ref (T k).2.1 (T k).2.2.1 = some x)
def FT (ty : FieldType) (v : AV) : Prop := match ty with
  | .int => ∃ z, v = iv z
  | .boolean => v = iv 0 ∨ v = iv 1
  | .object _ => ∃ r, v = .inr r
  | .array _ => ∃ r, v = .inr r
  | _ => False
def FP (own : String) (index ci k : Nat) (ty : FieldType) : Prop := ∃ (C : String) (T : u_T) (N : Nat) (ref : String) (ty0 : Nat → FieldType), vwCl[ci]? = some (C, T, N) ∧ (∀ w ∈ u_ws C T N, w ∈ uw) ∧ k < N ∧ Cond.fieldLink own index ref (T k).2.1 (T k).2.2.1 ∈ uw ∧ (∀ (args : Array Value) (s : State), (∀ w ∈ uw, w.before args s = true) → ∀ x, s.fieldFound? (T k).1 (T k).2.1 (T k).2.2.1 = some x → s.fieldFound? ref (T k).2.1 (T k).2.2.1 = some x) ∧ (∀ k, k < N → parseFieldDescriptor (T k).2.2.1 = some (ty0 k)) ∧ (∀ a, a < N → ∀ b, b < N → a ≠ b → (T a).2.1 ≠ (T b).2.1) ∧ (T k).2.2.2 = false ∧ parseFieldDescriptor (T k).2.2.1 = some ty
def FPF (own : String) (index ci k : Nat) (ty : FieldType) : Prop := ∃ (C : String) (T : u_T) (N : Nat) (ref : String) (ty0 : Nat → FieldType), vwCl[ci]? = some (C, T, N) ∧ (∀ w ∈ u_ws C T N, w ∈ uw) ∧ k < N ∧ Cond.fieldLink own index ref (T k).2.1 (T k).2.2.1 ∈ uw ∧ (∀ (args : Array Value) (s : State), (∀ w ∈ uw, w.before args s = true) → ∀ x, s.fieldFound? (T k).1 (T k).2.1 (T k).2.2.1 = some x → s.fieldFound? ref (T k).2.1 (T k).2.2.1 = some x) ∧ (∀ k, k < N → parseFieldDescriptor (T k).2.2.1 = some (ty0 k)) ∧ (∀ a, a < N → ∀ b, b < N → a ≠ b → (T a).2.1 ≠ (T b).2.1) ∧ (T k).2.2.2 = true ∧ parseFieldDescriptor (T k).2.2.1 = some ty ∧ (T k).1 = own
theorem FT.fit {ty : FieldType} {v : AV} (h : FT ty v) : narrow ty (tV v) = tV v ∧ fits ty (tV v) = true := by
  unfold FT at h
  split at h
  · obtain ⟨z, rfl⟩ := h; exact ⟨rfl, rfl⟩
  · rcases h with rfl | rfl
    · exact ⟨by decide, by decide⟩
    · exact ⟨by decide, by decide⟩
  · obtain ⟨r, rfl⟩ := h; cases r <;> exact ⟨rfl, rfl⟩
  · obtain ⟨r, rfl⟩ := h; cases r <;> exact ⟨rfl, rfl⟩
  · exact h.elim
theorem nF_of {ci N : Nat} {C : String} {T : u_T} (h : vwCl[ci]? = some (C, T, N)) : nF ci = N := by
  unfold nF
  rw [h]
def putC : EW → List Nat → EW → EW
  | ws, [], u => ws ++ u
  | ws, _ :: _, [] => ws
  | ws, i :: is, x :: u => putC (ws.set i x) is u
def rmD (d mc ms : Nat) : Room := { frames := d, cells := mc, slots := ms, locals := 40 * d }
def BW (D : va_G) (G : GG) (A : Nat → Prop) (ws : EW) (t : State) : Prop := va_P D vwCl (tW G ws) t.heap ∧ va_K D vwCl (tyG G) t ∧ va_D A (tW G ws)
def PcA (D : va_G) (G : GG) (av : List AV) (ws : EW) (sz : Nat) : Array Value → State → Prop := va_Pc (av.map tV) (fun U => U.heap.size = sz ∧ va_P D vwCl (tW G ws) U.heap ∧ va_K D vwCl (tyG G) U ∧ va_D (fun _ => True) (tW G ws) ∧ Ev (va_A (tW G ws) sz) U U.heap)
def QcI (D : va_G) (G : GG) (A : Nat → Prop) (Post : Int → EW → Prop) : Array Value → State → Outcome → State → Prop := va_Qi (fun (r : Int32) (u : EW) => ∃ z : Int, r = i32 z ∧ Post z u) (BW D G A) A
def QcV (D : va_G) (G : GG) (A : Nat → Prop) (Post : EW → Prop) : Array Value → State → Outcome → State → Prop := va_Qv Post (BW D G A) A
def QcR (D : va_G) (G : GG) (A : Nat → Prop) (Post : Nat → EW → Prop) : Array Value → State → Outcome → State → Prop := va_Qr (fun _ : EW => True) (fun u a t => Post a u ∧ BW D G A u t) A
/-- the contracts: an int's, nobody's, a reference's -/
def AMi (l : Launch) (y : MethodName) (b : ByteArray) (n : Nat) (ret : FieldType) (d mc ms : Nat) (av : List AV) (ws : EW) (Post : Int → EW → Prop) : Prop :=
  ∀ (D : va_G) (G : GG) (sz : Nat), Met l y (.code y b n (some ret) :: uw) (rmD d mc ms) (PcA D G av ws sz) (QcI D G (va_A (tW G ws) sz) Post) mc ms (va_A (tW G ws) sz)
def AMv (l : Launch) (y : MethodName) (b : ByteArray) (n : Nat) (d mc ms : Nat) (av : List AV) (ws : EW) (Post : EW → Prop) : Prop :=
  ∀ (D : va_G) (G : GG) (sz : Nat), Met l y (.code y b n none :: uw) (rmD d mc ms) (PcA D G av ws sz) (QcV D G (va_A (tW G ws) sz) Post) mc ms (va_A (tW G ws) sz)
def AMr (l : Launch) (y : MethodName) (b : ByteArray) (n : Nat) (ret : FieldType) (d mc ms : Nat) (av : List AV) (ws : EW) (Post : Nat → EW → Prop) : Prop :=
  ∀ (D : va_G) (G : GG) (sz : Nat), Met l y (.code y b n (some ret) :: uw) (rmD d mc ms) (PcA D G av ws sz) (QcR D G (va_A (tW G ws) sz) Post) mc ms (va_A (tW G ws) sz)
def aL (av : List AV) : Nat → Option AV := fun i => av[i]?
theorem lg_sl_map (av : List AV) : lg_sl (av.map tV) = av.map (fun v => Slot.val (tV v)) := by
  induction av with
  | nil => rfl
  | cons v t ih =>
    rcases v with z | r
    · show Slot.val _ :: lg_sl (t.map tV) = _
      rw [ih]; rfl
    · cases r <;> (show Slot.val _ :: lg_sl (t.map tV) = _; rw [ih]; rfl)
theorem LH.entry (av : List AV) {n : Nat} (h : av.length ≤ n) : LH ((lg_sl (av.map tV) ++ List.replicate (n - (lg_sl (av.map tV)).length) Slot.unset).toArray) n (aL av) := by
  have hlen : (lg_sl (av.map tV)).length = av.length := by rw [lg_sl_map, List.length_map]
  have h0 := lv_entry (av.map tV) (n := n) (by rw [hlen]; exact h)
  refine ⟨h0.1, h0.2.1, fun i v hv => ?_⟩
  have hv' : av[i]? = some v := hv
  have hi : i < av.length := (List.getElem?_eq_some_iff.mp hv').1
  rw [List.getElem?_toArray, List.getElem?_append_left (by rw [hlen]; exact hi), lg_sl_map, List.getElem?_map, hv']
  rfl
section SB
variable {l : Launch} {y : MethodName} {b : ByteArray} {n d mc ms : Nat} {av : List AV} {ws : EW}
theorem AM_body {ret : Option FieldType} {Qc : va_G → GG → Nat → Array Value → State → Outcome → State → Prop} (D : va_G) (G : GG) (sz : Nat) (hy : plainName y.cls = true) (hn : av.length ≤ n)
    (body : ∀ (p : Program) (e : Env) (s : State) (m : MethodId) (args : Array Value) (below : List Frame) (meth : Method) (c : Code), s.heap.size = sz → meth.name = y.name → Cx p s m args meth c D G (va_A (tW G ws) s.heap.size) b n ret y.cls →
      S_ p l e (rmD d mc ms) s m args below meth c (MQ below (Qc D G s.heap.size) args s mc ms (va_A (tW G ws) s.heap.size)) D G (va_A (tW G ws) s.heap.size) n 0 0 0 (aL av) [] ws) :
    Met l y (.code y b n ret :: uw) (rmD d mc ms) (PcA D G av ws sz) (Qc D G sz) mc ms (va_A (tW G ws) sz) := by
  refine Met.ofW (cc := b) (maxL := n) (ret := ret) hy rfl ?_
  intro p e s m args below meth c s₁ B hml hv
  obtain ⟨rfl, hsz, hP, hK, hD0, hE⟩ := hv
  have hts := atoms_spec (ws := Cond.code y b n ret :: uw) B.pre
  have hown : s.vm.findClass y.cls = some m.cls := findClass_of_methodNamed B.named
  have hname : meth.name = y.name := (name_of_methodNamed B.named B.method).1
  subst hsz
  have X : Cx p s m ((av.map tV).toArray) meth c D G (va_A (tW G ws) s.heap.size) b n ret y.cls := ⟨B.exec, B.bytes, hml, hown, fun w h => hts w (List.mem_cons_of_mem _ h), hK, fun q h => Or.inr h, hE, B.returns, B.notSynchronized⟩
  rw [lg_entry_eq]
  exact body p e s m _ below meth c rfl hname X s.heap [] _ hP hD0.self va_S.rf (LH.entry av hn)
theorem AMi.of {ret : FieldType} {Post : Int → EW → Prop} (hy : plainName y.cls = true) (hn : av.length ≤ n)
    (body : ∀ (D : va_G) (G : GG) (A : Nat → Prop) (p : Program) (e : Env) (s : State) (m : MethodId) (args : Array Value) (below : List Frame) (meth : Method) (c : Code), Cx p s m args meth c D G A b n (some ret) y.cls →
      S_ p l e (rmD d mc ms) s m args below meth c (MQ below (QcI D G A Post) args s mc ms A) D G A n 0 0 0 (aL av) [] ws) : AMi l y b n ret d mc ms av ws Post := by
  intro D G sz
  refine AM_body (Qc := fun D G sz => QcI D G (va_A (tW G ws) sz) Post) D G sz hy hn ?_
  intro p e s m args below meth c _ _ X
  exact body D G _ p e s m args below meth c X
theorem AMv.of {Post : EW → Prop} (hy : plainName y.cls = true) (hn : av.length ≤ n)
    (body : ∀ (D : va_G) (G : GG) (A : Nat → Prop) (p : Program) (e : Env) (s : State) (m : MethodId) (args : Array Value) (below : List Frame) (meth : Method) (c : Code), meth.name = y.name → Cx p s m args meth c D G A b n none y.cls →
      S_ p l e (rmD d mc ms) s m args below meth c (MQ below (QcV D G A Post) args s mc ms A) D G A n 0 0 0 (aL av) [] ws) : AMv l y b n d mc ms av ws Post := by
  intro D G sz
  refine AM_body (Qc := fun D G sz => QcV D G (va_A (tW G ws) sz) Post) D G sz hy hn ?_
  intro p e s m args below meth c _ hnm X
  exact body D G _ p e s m args below meth c hnm X
theorem AMr.of {ret : FieldType} {Post : Nat → EW → Prop} (hy : plainName y.cls = true) (hn : av.length ≤ n)
    (body : ∀ (D : va_G) (G : GG) (A : Nat → Prop) (p : Program) (e : Env) (s : State) (m : MethodId) (args : Array Value) (below : List Frame) (meth : Method) (c : Code), Cx p s m args meth c D G A b n (some ret) y.cls →
      S_ p l e (rmD d mc ms) s m args below meth c (MQ below (QcR D G A Post) args s mc ms A) D G A n 0 0 0 (aL av) [] ws) : AMr l y b n ret d mc ms av ws Post := by
  intro D G sz
  refine AM_body (Qc := fun D G sz => QcR D G (va_A (tW G ws) sz) Post) D G sz hy hn ?_
  intro p e s m args below meth c _ _ X
  exact body D G _ p e s m args below meth c X
end SB
section SF
variable {p : Program} {l : Launch} {e : Env} {R : Room} {s : State} {m : MethodId} {args : Array Value} {below : List Frame} {meth : Method} {c : Code} {Q : State → Prop} {D : va_G} {G : GG} {A : Nat → Prop} {cc : ByteArray} {nL cells slots pc : Nat} {rt : Option FieldType} {own : String} {L : Nat → Option AV} {st : List AV} {ws : EW}
theorem S_get (X : Cx p s m args meth c D G A cc nL rt own) {index ci k : Nat} (F : FG own index ci k) (q0 : Nat) {a : Nat} {f : Nat → AV} {v : AV} (he : ws[q0]? = some (a, ob ci f)) (hv : f k = v) (hdg : decode cc pc = .ok (.getfield index, 3)) (kk : S_ p l e R s m args below meth c Q D G A nL cells slots (pc + 3) L (v :: st) ws) : S_ p l e R s m args below meth c Q D G A nL cells slots pc L (rv a :: st) ws := by
  intro H locs ls hP hD hS hl
  obtain ⟨C, T, N, ref, hc, hin, hk, hlk, hsame⟩ := F
  have hc2 := hc
  have hfs : ((List.range (nF ci)).map (fun k => tV (f k)))[k]? = some (tV v) := by rw [nF_of hc, ← hv]; exact tF_at hk
  exact va_get X.1 X.2.1 X.2.2.2.2.1 hin X.2.2.2.1 X.2.2.2.2.2.1 hP q0 (tW_at he) hc2 k hk (X.2.2.2.2.1 _ hlk) (hsame args s X.2.2.2.2.1) hfs hdg (kk H locs ls hP hD hS hl)
theorem S_put (X : Cx p s m args meth c D G A cc nL rt own) {index ci k : Nat} {ty : FieldType} (F : FP own index ci k ty) (q0 : Nat) {a : Nat} {f : Nat → AV} {v : AV} (he : ws[q0]? = some (a, ob ci f)) (hv : FT ty v) (hdg : decode cc pc = .ok (.putfield index, 3)) (kk : S_ p l e R s m args below meth c Q D G A nL cells slots (pc + 3) L st (ws.set q0 (a, ob ci (uF f k v)))) : S_ p l e R s m args below meth c Q D G A nL cells slots pc L (v :: rv a :: st) ws := by
  intro H locs ls hP hD hS hl
  obtain ⟨C, T, N, ref, ty0, hc, hin, hk, hlk, hsame, hty, hnm, hfin, hd⟩ := F
  have hc2 := hc
  have hlen : k < ((List.range (nF ci)).map (fun k => tV (f k))).length := by rw [nF_of hc, List.length_map, List.length_range]; exact hk
  refine va_put X.1 X.2.1 X.2.2.2.2.1 hin ty0 hty hnm X.2.2.2.1 X.2.2.2.2.2.1 hP hD hS q0 (tW_at he) hc2 k hk (X.2.2.2.2.1 _ hlk) (hsame args s X.2.2.2.2.1) hfin hd hv.fit.1 hv.fit.2 hlen hdg (fun H1 locs1 hP1 hD1 hS1 => ?_)
  rw [tF_set] at hP1 hD1
  have e1 : (tW G ws).set q0 (a, .inr (ci, (List.range (nF ci)).map (fun j => tV (uF f k v j)))) = tW G (ws.set q0 (a, ob ci (uF f k v))) := tW_set (x := ob ci (uF f k v))
  rw [e1] at hP1 hD1
  exact kk H1 locs1 ls hP1 hD1 hS1 hl
theorem S_putF (X : Cx p s m args meth c D G A cc nL rt own) (hin2 : meth.name = "<init>") {index ci k : Nat} {ty : FieldType} (F : FPF own index ci k ty) (q0 : Nat) {a : Nat} {f : Nat → AV} {v : AV} (he : ws[q0]? = some (a, ob ci f)) (hv : FT ty v) (hdg : decode cc pc = .ok (.putfield index, 3)) (kk : S_ p l e R s m args below meth c Q D G A nL cells slots (pc + 3) L st (ws.set q0 (a, ob ci (uF f k v)))) : S_ p l e R s m args below meth c Q D G A nL cells slots pc L (v :: rv a :: st) ws := by
  intro H locs ls hP hD hS hl
  obtain ⟨C, T, N, ref, ty0, hc, hin, hk, hlk, hsame, hty, hnm, hfin, hd, hdecl⟩ := F
  have hc2 := hc
  have hlen : k < ((List.range (nF ci)).map (fun k => tV (f k))).length := by rw [nF_of hc, List.length_map, List.length_range]; exact hk
  refine va_putF X.1 X.2.1 X.2.2.2.2.1 hin ty0 hty hnm X.2.2.2.1 X.2.2.2.2.2.1 hP hD hS q0 (tW_at he) hc2 k hk (X.2.2.2.2.1 _ hlk) (hsame args s X.2.2.2.2.1) hfin hin2 hdecl hd hv.fit.1 hv.fit.2 hlen hdg (fun H1 locs1 hP1 hD1 hS1 => ?_)
  rw [tF_set] at hP1 hD1
  have e1 : (tW G ws).set q0 (a, .inr (ci, (List.range (nF ci)).map (fun j => tV (uF f k v j)))) = tW G (ws.set q0 (a, ob ci (uF f k v))) := tW_set (x := ob ci (uF f k v))
  rw [e1] at hP1 hD1
  exact kk H1 locs1 ls hP1 hD1 hS1 hl
-- ends
theorem S_iret {Post : Int → EW → Prop} {mc ms : Nat} (X : Cx p s m args meth c D G A cc nL (some .int) own) {z : Int} (hc1 : cells ≤ mc) (hc2 : slots ≤ ms) (hdg : decode cc pc = .ok (.ireturn, 1)) (hp : Post z ws) : S_ p l e R s m args below meth c (MQ below (QcI D G A Post) args s mc ms A) D G A nL cells slots pc L [iv z] ws := by
  intro H locs ls hP hD hS hl
  refine W.widen (k := mc) (n := ms) hc1 hc2 ?_
  exact W.iret (v := i32 z) X.1 X.2.1 X.2.2.2.2.2.2.2.2.1 (fun t ht hW => ⟨⟨i32 z, ws, rfl, ⟨z, rfl, hp⟩, by rw [ht]; exact hP, va_K.moved hW.alike X.2.2.2.2.2.1, hD⟩, hS.F ht⟩) hS.2.2 hdg X.2.2.2.2.2.2.2.2.2
theorem S_zret {Post : Int → EW → Prop} {mc ms : Nat} (X : Cx p s m args meth c D G A cc nL (some .boolean) own) {z : Int} (hz : z = 0 ∨ z = 1) (hc1 : cells ≤ mc) (hc2 : slots ≤ ms) (hdg : decode cc pc = .ok (.ireturn, 1)) (hp : Post z ws) : S_ p l e R s m args below meth c (MQ below (QcI D G A Post) args s mc ms A) D G A nL cells slots pc L [iv z] ws := by
  intro H locs ls hP hD hS hl
  refine W.widen (k := mc) (n := ms) hc1 hc2 ?_
  exact W.zret (v := i32 z) X.1 X.2.1 X.2.2.2.2.2.2.2.2.1 (by rcases hz with rfl | rfl <;> decide) (fun t ht hW => ⟨⟨i32 z, ws, rfl, ⟨z, rfl, hp⟩, by rw [ht]; exact hP, va_K.moved hW.alike X.2.2.2.2.2.1, hD⟩, hS.F ht⟩) hS.2.2 hdg X.2.2.2.2.2.2.2.2.2
theorem S_vret {Post : EW → Prop} {mc ms : Nat} (X : Cx p s m args meth c D G A cc nL none own) (hc1 : cells ≤ mc) (hc2 : slots ≤ ms) (hdg : decode cc pc = .ok (.return_, 1)) (hp : Post ws) : S_ p l e R s m args below meth c (MQ below (QcV D G A Post) args s mc ms A) D G A nL cells slots pc L [] ws := by
  intro H locs ls hP hD hS hl
  refine W.widen (k := mc) (n := ms) hc1 hc2 ?_
  exact W.vret X.1 X.2.1 X.2.2.2.2.2.2.2.2.1 (fun t ht hW => ⟨⟨ws, rfl, hp, by rw [ht]; exact hP, va_K.moved hW.alike X.2.2.2.2.2.1, hD⟩, hS.F ht⟩) hS.2.2 hdg X.2.2.2.2.2.2.2.2.2
end SF
end pt_05calls
/- 06.runs.lean.txt -/
section pt_06runs
/-! CALLS: what the tables say of a call (once a place), the run of the callee, the world behind it -/
def okD (y : MethodName) (k : Nat) : Prop := y.cls ≠ "java/lang/invoke/MethodHandle" ∧ y.cls ≠ "java/lang/invoke/VarHandle" ∧ (parseMethodDescriptor y.desc).map (fun d => d.parameters.length) = some k
def LkV (own : String) (idx : Nat) (y : MethodName) (b : ByteArray) (n : Nat) (ret : Option FieldType) (k : Nat) : Prop := (Cond.methodLink own idx y ∈ uw ∧ Cond.instanceMethod y ∈ uw ∧ Cond.selects y.cls y y ∈ uw ∧ Cond.initialized y.cls ∈ uw ∧ Cond.code y b n ret ∈ uw) ∧ okD y k
def LkS (own : String) (idx : Nat) (y : MethodName) (b : ByteArray) (n : Nat) (ret : Option FieldType) (k : Nat) : Prop := (Cond.methodLink own idx y ∈ uw ∧ Cond.static y ∈ uw ∧ Cond.initialized y.cls ∈ uw ∧ Cond.code y b n ret ∈ uw) ∧ okD y k
def LkI (own : String) (idx : Nat) (y : MethodName) (b : ByteArray) (n : Nat) (k : Nat) : Prop := (Cond.methodLink own idx y ∈ uw ∧ Cond.instanceMethod y ∈ uw ∧ Cond.initialized y.cls ∈ uw ∧ Cond.code y b n none ∈ uw) ∧ okD y k ∧ y.name = "<init>"
def LkSN (own : String) (idx : Nat) (host : String) (y : MethodName) (b : ByteArray) (n : Nat) (ret : Option FieldType) (k : Nat) : Prop := (Cond.methodLinkNest own idx y host ∈ nw ∧ Cond.static y ∈ uw ∧ Cond.initialized y.cls ∈ uw ∧ Cond.code y b n ret ∈ uw) ∧ okD y k
def LkIN (own : String) (idx : Nat) (host : String) (y : MethodName) (b : ByteArray) (n : Nat) (k : Nat) : Prop := (Cond.methodLinkNest own idx y host ∈ nw ∧ Cond.instanceMethod y ∈ uw ∧ Cond.initialized y.cls ∈ uw ∧ Cond.code y b n none ∈ uw) ∧ okD y k ∧ y.name = "<init>"
def LkU (own : String) (idx : Nat) (C owner : String) (x y : MethodName) (b : ByteArray) (n : Nat) (ret : Option FieldType) (k : Nat) : Prop := (Cond.methodLink own idx x ∈ uw ∧ Cond.sameMethod x.cls owner x.name x.desc ∈ uw ∧ Cond.selects C x y ∈ uw ∧ Cond.instanceMethod y ∈ uw ∧ Cond.initialized y.cls ∈ uw ∧ Cond.code y b n ret ∈ uw) ∧ y = ⟨owner, x.name, x.desc⟩ ∧ okD ⟨owner, x.name, x.desc⟩ k
def LkA (own : String) (idx : Nat) (C owner : String) (x y : MethodName) (b : ByteArray) (n : Nat) (ret : Option FieldType) (k : Nat) : Prop := (Cond.methodLink own idx x ∈ uw ∧ Cond.sameMethod x.cls owner x.name x.desc ∈ uw ∧ Cond.selects C x y ∈ uw ∧ Cond.instanceMethod y ∈ uw ∧ Cond.initialized y.cls ∈ uw ∧ Cond.code y b n ret ∈ uw) ∧ Cond.declares ⟨owner, x.name, x.desc⟩ ∈ nw ∧ okD ⟨owner, x.name, x.desc⟩ k
def clN (ci : Nat) : String := match vwCl[ci]? with
  | some r => r.1
  | none => ""
theorem putC_at : ∀ (is : List Nat) (u ws : EW), u.length = is.length → ∀ (k : Nat) (q : Nat × EE), (putC ws is u)[k]? = some q → (∃ j : Nat, is[j]? = some k ∧ u[j]? = some q) ∨ (k ∉ is ∧ ws[k]? = some q) := by
  intro is
  induction is with
  | nil =>
    intro u ws hlen k q h
    cases u with
    | nil => rw [putC, List.append_nil] at h; exact Or.inr ⟨List.not_mem_nil, h⟩
    | cons x u => cases hlen
  | cons i is ih =>
    intro u ws hlen k q h
    cases u with
    | nil => cases hlen
    | cons x u =>
      rw [putC] at h
      rcases ih u (ws.set i x) (Nat.succ.inj hlen) k q h with ⟨j, h1, h2⟩ | ⟨h1, h2⟩
      · exact Or.inl ⟨j + 1, h1, h2⟩
      · rw [List.getElem?_set] at h2
        by_cases e : i = k
        · subst e
          rw [if_pos rfl] at h2
          by_cases hl : i < ws.length
          · rw [if_pos hl] at h2
            exact Or.inl ⟨0, rfl, h2⟩
          · rw [if_neg hl] at h2; cases h2
        · rw [if_neg e] at h2
          refine Or.inr ⟨fun hm => ?_, h2⟩
          rcases List.mem_cons.mp hm with h3 | h3
          · exact e h3.symm
          · exact h1 h3
theorem putC_fst : ∀ (is : List Nat) (u ws : EW), u.length = is.length → (∀ (j i : Nat) (x : Nat × EE), is[j]? = some i → u[j]? = some x → (ws.map (fun q => q.1))[i]? = some x.1) → (putC ws is u).map (fun q => q.1) = ws.map (fun q => q.1) := by
  intro is
  induction is with
  | nil =>
    intro u ws hlen _
    cases u with
    | nil => rw [putC, List.append_nil]
    | cons x u => cases hlen
  | cons i is ih =>
    intro u ws hlen h
    cases u with
    | nil => cases hlen
    | cons x u =>
      have e : (ws.set i x).map (fun q => q.1) = ws.map (fun q => q.1) := by
        rw [List.map_set]
        apply List.ext_getElem?
        intro j
        rw [List.getElem?_set]
        by_cases hj : i = j
        · subst hj
          have h0 := h 0 i x rfl rfl
          rw [if_pos rfl, if_pos (List.getElem?_eq_some_iff.mp h0).1, h0]
        · rw [if_neg hj]
      rw [putC, ih u (ws.set i x) (Nat.succ.inj hlen) (fun j i' x' h1 h2 => by rw [e]; exact h (j + 1) i' x' h1 h2), e]
theorem tW_fst {G : GG} {ws : EW} : (tW G ws).map (fun q => q.1) = ws.map (fun q => q.1) := by
  unfold tW
  rw [List.map_map]
  rfl
theorem va_D_fst {A : Nat → Prop} {G : GG} {ws ws' : EW} (h : ws'.map (fun q => q.1) = ws.map (fun q => q.1)) (hD : va_D A (tW G ws)) : va_D A (tW G ws') := by
  have key : ∀ (k : Nat) (q : Nat × va_E), (tW G ws')[k]? = some q → ∃ q2, (tW G ws)[k]? = some q2 ∧ q2.1 = q.1 := by
    intro k q hk
    have h1 : ((tW G ws').map (fun q => q.1))[k]? = some q.1 := by rw [List.getElem?_map, hk]; rfl
    rw [tW_fst, h, ← tW_fst (G := G), List.getElem?_map] at h1
    cases h2 : (tW G ws)[k]? with
    | none => rw [h2] at h1; cases h1
    | some q2 => rw [h2] at h1; exact ⟨q2, rfl, Option.some.inj h1⟩
  refine ⟨fun i j x y hi hj hxy => ?_, fun k q hk => ?_⟩
  · obtain ⟨x2, a1, a2⟩ := key i x hi
    obtain ⟨y2, b1, b2⟩ := key j y hj
    exact hD.1 i j x2 y2 a1 b1 (by rw [a2, b2, hxy])
  · obtain ⟨q2, a1, a2⟩ := key k q hk
    rw [← a2]
    exact hD.2 k q2 a1
theorem cut_at {α : Type} {ws wc : List α} {is : List Nat} (h : is.map (fun i => ws[i]?) = wc.map some) {j : Nat} {x : α} (hx : wc[j]? = some x) : ∃ i, is[j]? = some i ∧ ws[i]? = some x := by
  have h1 : (is.map (fun i => ws[i]?))[j]? = some (some x) := by rw [h, List.getElem?_map, hx]; rfl
  rw [List.getElem?_map] at h1
  cases hi : is[j]? with
  | none => rw [hi] at h1; cases h1
  | some i => rw [hi] at h1; exact ⟨i, rfl, Option.some.inj h1⟩
theorem cut_tW {G : GG} {ws wc : EW} {is : List Nat} (h : is.map (fun i => ws[i]?) = wc.map some) : is.map (fun i => (tW G ws)[i]?) = (tW G wc).map some := by
  have e : is.map (fun i => (tW G ws)[i]?) = (is.map (fun i => ws[i]?)).map (fun o => o.map (fun q => (q.1, tE G q.2))) := by
    rw [List.map_map]
    apply List.map_congr_left
    intro i _
    unfold tW
    rw [List.getElem?_map]
    rfl
  rw [e, h]
  unfold tW
  rw [List.map_map, List.map_map]
  rfl
theorem va_putC {A : Nat → Prop} {D : va_G} {G : GG} {ws wc u : EW} {H H1 : Heap} {is : List Nat} (hP : va_P D vwCl (tW G ws) H) (hD : va_D A (tW G ws)) (hC : is.map (fun i => ws[i]?) = wc.map some) (hu : u.map (fun q => q.1) = wc.map (fun q => q.1)) (hk : ∀ q : Nat, q < H.size → ¬ va_A (tW G wc) H.size q → H1[q]? = H[q]?) (hP1 : va_P D vwCl (tW G u) H1) : va_P D vwCl (tW G (putC ws is u)) H1 ∧ va_D A (tW G (putC ws is u)) := by
  have hl1 : wc.length = is.length := by
    have := congrArg List.length hC
    rw [List.length_map, List.length_map] at this
    exact this.symm
  have hl2 : u.length = is.length := by
    have := congrArg List.length hu
    rw [List.length_map, List.length_map] at this
    omega
  refine ⟨fun k q hq => ?_, va_D_fst (putC_fst is u ws hl2 (fun j i x h1 h2 => ?_)) hD⟩
  · unfold tW at hq
    rw [List.getElem?_map] at hq
    cases h0 : (putC ws is u)[k]? with
    | none => rw [h0] at hq; cases hq
    | some q0 =>
      rw [h0] at hq
      cases hq
      rcases putC_at is u ws hl2 k q0 h0 with ⟨j, h1, h2⟩ | ⟨h1, h2⟩
      · exact hP1 j _ (tW_at (a := q0.1) (x := q0.2) h2)
      · have hq1 := hP k _ (tW_at (a := q0.1) (x := q0.2) h2)
        refine hq1.kept (hk q0.1 hq1.lt (fun hA => ?_))
        rcases hA with ⟨j, e, hj⟩ | hA
        · obtain ⟨i, h3, h4⟩ := cut_at (cut_tW (G := G) hC) hj
          have hik := hD.1 k i _ _ (tW_at (a := q0.1) (x := q0.2) h2) h4 rfl
          subst hik
          exact h1 (List.mem_of_getElem? h3)
        · have := hq1.lt
          exact absurd hA (Nat.not_le.mpr this)
  · have h3 : (u.map (fun q => q.1))[j]? = some x.1 := by rw [List.getElem?_map, h2]; rfl
    rw [hu, List.getElem?_map] at h3
    cases h4 : wc[j]? with
    | none => rw [h4] at h3; cases h3
    | some w =>
      rw [h4] at h3
      obtain ⟨i2, h5, h6⟩ := cut_at hC h4
      rw [h1] at h5
      cases h5
      rw [List.getElem?_map, h6, ← Option.some.inj h3]
      rfl
section SC
variable {p : Program} {l : Launch} {e : Env} {R : Room} {s : State} {m : MethodId} {args : Array Value} {below : List Frame} {meth : Method} {c : Code} {Q : State → Prop} {D : va_G} {G : GG} {A : Nat → Prop} {cc : ByteArray} {nL cells slots pc : Nat} {rt : Option FieldType} {own : String} {L : Nat → Option AV} {st : List AV} {ws : EW}
variable {y : MethodName} {b : ByteArray} {n d mc ms idx k : Nat} {ret : Option FieldType} {av avs rest : List AV} {wc : EW} {Qc : Array Value → State → Outcome → State → Prop} {is : List Nat} {H : Heap} {locs : List Loc} {ls : Array Slot}
theorem cx_fix (X : Cx p s m args meth c D G A cc nL rt own) : CallFix p m c cc nL s args uw own := ⟨X.1, X.2.1, X.2.2.1, X.2.2.2.1, X.2.2.2.2.1⟩
theorem pcA_blind {sz : Nat} : FrameBlind (PcA D G av wc sz) := by
  intro a U g mk q
  obtain ⟨q0, q1, qP, qK, qD, qE⟩ := q
  exact ⟨q0, q1, qP, va_K.moved (u := U) (U := U.calling g mk a) (Vm.Alike.refl U.vm) qK, qD, Ev.same qE rfl⟩
theorem pcA_ok (X : Cx p s m args meth c D G A cc nL rt own) (hP : va_P D vwCl (tW G ws) H) (hD : va_D A (tW G ws)) (hS : va_S A s.heap H locs) (hn : va_nd is = true) (hC : is.map (fun i => ws[i]?) = wc.map some) (U : State) (hU : U.heap = H) (hW : s.WarmedH U.vm) : PcA D G av wc H.size (av.map tV).toArray U := by
  have hF := va_free (wc := tW G wc) hD hS X.2.2.2.2.2.2.1 is (cut_tW hC)
  refine ⟨rfl, by rw [hU], ?_, va_K.moved hW.alike X.2.2.2.2.2.1, ?_, ?_⟩
  · rw [hU]
    intro j q hj
    obtain ⟨i, -, h2⟩ := cut_at (cut_tW (G := G) hC) hj
    exact hP i q h2
  · exact (hD.sub is hn (cut_tW hC)).weaken (fun _ _ _ _ => trivial)
  · rw [hU]
    exact Ev.go X.2.2.2.2.2.2.2.1 hW (fun a h1 h2 => hS.2.1 a h1 h2) hF
def Runs (p : Program) (l : Launch) (e : Env) (R : Room) (s : State) (m : MethodId) (args : Array Value) (below : List Frame) (meth : Method) (c : Code) (D : va_G) (G : GG) (A : Nat → Prop) (nL cells slots pc : Nat) (L : Nat → Option AV) (st : List AV) (ws : EW) (y : MethodName) (b : ByteArray) (n : Nat) (ret : Option FieldType) (d mc ms : Nat) (av : List AV) (wc : EW) (rest : List AV) : Prop :=
  ∀ (H : Heap) (locs : List Loc) (ls : Array Slot), va_P D vwCl (tW G ws) H → va_D A (tW G ws) → va_S A s.heap H locs → LH ls nL L → ∀ (Qc : Array Value → State → Outcome → State → Prop) (free : Addr → Prop), Met l y (.code y b n ret :: uw) (rmD d mc ms) (PcA D G av wc H.size) Qc mc ms free → va_Run p l e R s m args below meth c H locs cells slots mc ms (F0 m pc ls (st.map tV)) (rest.map tV) (Qc (av.map tV).toArray) free
theorem room8 {st0 : List Value} {rest0 : List AV} (h : rest0.length ≤ 8) {m : MethodId} {pc : Nat} {ls : Array Slot} : 2 * (F0 m pc ls st0).monitorRoom + ((rest0.map tV).map fun v => v.category).sum ≤ 8 := by
  have e : ((rest0.map tV).map fun v => v.category).sum = rest0.length := by
    clear h
    induction rest0 with
    | nil => rfl
    | cons v t ih => simp only [List.map_cons, List.sum_cons, List.length_cons, ih, tV_cat]; omega
  show 2 * 0 + _ ≤ 8
  omega
theorem stk_V {avs : List AV} {a : Nat} {rest : List AV} (h : st = avs.reverse ++ rv a :: rest) : st.map tV = (avs.map tV).reverse ++ Value.ref a :: rest.map tV := by
  rw [h, List.map_append, List.map_reverse]
  rfl
theorem stk_S {avs rest : List AV} (h : st = avs.reverse ++ rest) : st.map tV = (avs.map tV).reverse ++ rest.map tV := by
  rw [h, List.map_append, List.map_reverse]
theorem uw_cons {y : MethodName} {b : ByteArray} {n : Nat} {ret : Option FieldType} (h : Cond.code y b n ret ∈ uw) : GoodIn uw (Cond.code y b n ret :: uw) := uw_goods (fun w hw => (List.mem_cons.mp hw).elim (fun e => e ▸ h) id)
theorem run_V (X : Cx p s m args meth c D G A cc nL rt own) (K : LkV own idx y b n ret k) (q0 : Nat) {a ci : Nat} {f : Nat → AV} (hr : ws[q0]? = some (a, ob ci f)) (hcl : (vwCl[ci]?).map (fun r => r.1) = some y.cls) (hst : st = avs.reverse ++ rv a :: rest) (hk : avs.length = k) (h8 : rest.length ≤ 8) (hR : d + 1 ≤ R.frames ∧ 8 + (n + 11) + 40 * d ≤ R.locals) (hcs : cells + mc ≤ R.cells ∧ slots + ms ≤ R.slots) (hdg : decode cc pc = .ok (.invokevirtual idx, 3)) (hn : va_nd is = true) (hC : is.map (fun i => ws[i]?) = wc.map some) :
    Runs p l e R s m args below meth c D G A nL cells slots pc L st ws y b n ret d mc ms (rv a :: avs) wc rest := by
  intro H locs ls hP hD hS hl Qc free hM
  obtain ⟨⟨k1, k2, k3, k4, k5⟩, k6⟩ := K
  cases hq : vwCl[ci]? with
  | none => rw [hq] at hcl; cases hcl
  | some r =>
    rw [hq] at hcl
    have hr1 : r.1 = y.cls := Option.some.inj hcl
    have hrecv := va_recv X.2.2.2.2.2.1 hP hq (tW_at hr)
    rw [hr1] at hrecv
    exact va_runV (C := y.cls) (n := k) (cx_fix X) hM (cwV k X.2.2.2.2.1 (uw_goods (fun w hw => by
        rcases List.mem_append.mp hw with h | h
        · simp only [List.mem_cons, List.not_mem_nil, or_false] at h
          rcases h with rfl | rfl | rfl | rfl <;> assumption
        · exact (uw_cons k5 w h).1)) rfl rfl rfl ⟨rfl, k6⟩ hR) ⟨pcA_blind, hrecv, fun U hU hW => pcA_ok X hP hD hS hn hC U hU hW⟩ rfl (by rw [List.length_map]; exact hk) hl.1 (stk_V hst) (room8 h8) hdg hcs
theorem run_U {C owner : String} {x : MethodName} (X : Cx p s m args meth c D G A cc nL rt own) (K : LkU own idx C owner x y b n ret k) (q0 : Nat) {a ci : Nat} {f : Nat → AV} (hr : ws[q0]? = some (a, ob ci f)) (hcl : (vwCl[ci]?).map (fun r => r.1) = some C) (hst : st = avs.reverse ++ rv a :: rest) (hk : avs.length = k) (h8 : rest.length ≤ 8) (hR : d + 1 ≤ R.frames ∧ 8 + (n + 11) + 40 * d ≤ R.locals) (hcs : cells + mc ≤ R.cells ∧ slots + ms ≤ R.slots) (hdg : decode cc pc = .ok (.invokevirtual idx, 3)) (hn : va_nd is = true) (hC : is.map (fun i => ws[i]?) = wc.map some) :
    Runs p l e R s m args below meth c D G A nL cells slots pc L st ws y b n ret d mc ms (rv a :: avs) wc rest := by
  intro H locs ls hP hD hS hl Qc free hM
  obtain ⟨⟨k1, k2, k3, k4, k5, k5b⟩, k6, k7⟩ := K
  cases hq : vwCl[ci]? with
  | none => rw [hq] at hcl; cases hcl
  | some r =>
    rw [hq] at hcl
    have hr1 : r.1 = C := Option.some.inj hcl
    have hrecv := va_recv X.2.2.2.2.2.1 hP hq (tW_at hr)
    rw [hr1] at hrecv
    exact va_runU (n := k) (cx_fix X) hM (va_cwU k X.2.2.2.2.1 (uw_goods (fun w hw => by
        rcases List.mem_append.mp hw with h | h
        · simp only [List.mem_cons, List.not_mem_nil, or_false] at h
          rcases h with rfl | rfl | rfl | rfl | rfl <;> assumption
        · exact (uw_cons k5b w h).1)) rfl rfl rfl k6 k7 hR) ⟨pcA_blind, hrecv, fun U hU hW => pcA_ok X hP hD hS hn hC U hU hW⟩ rfl (by rw [List.length_map]; exact hk) hl.1 (stk_V hst) (room8 h8) hdg hcs
theorem run_A {C owner : String} {x : MethodName} (X : Cx p s m args meth c D G A cc nL rt own) (K : LkA own idx C owner x y b n ret k) (q0 : Nat) {a ci : Nat} {f : Nat → AV} (hr : ws[q0]? = some (a, ob ci f)) (hcl : (vwCl[ci]?).map (fun r => r.1) = some C) (hst : st = avs.reverse ++ rv a :: rest) (hk : avs.length = k) (h8 : rest.length ≤ 8) (hR : d + 1 ≤ R.frames ∧ 8 + (n + 11) + 40 * d ≤ R.locals) (hcs : cells + mc ≤ R.cells ∧ slots + ms ≤ R.slots) (hdg : decode cc pc = .ok (.invokevirtual idx, 3)) (hn : va_nd is = true) (hC : is.map (fun i => ws[i]?) = wc.map some) :
    Runs p l e R s m args below meth c D G A nL cells slots pc L st ws y b n ret d mc ms (rv a :: avs) wc rest := by
  intro H locs ls hP hD hS hl Qc free hM
  obtain ⟨⟨k1, k2, k3, k4, k5, k5b⟩, k6, k7⟩ := K
  cases hq : vwCl[ci]? with
  | none => rw [hq] at hcl; cases hcl
  | some r =>
    rw [hq] at hcl
    have hr1 : r.1 = C := Option.some.inj hcl
    have hrecv := va_recv X.2.2.2.2.2.1 hP hq (tW_at hr)
    rw [hr1] at hrecv
    exact va_runU (n := k) (cx_fix X) hM (va_cwA k X.2.2.2.2.1 (uw_goods (fun w hw => by
        rcases List.mem_append.mp hw with h | h
        · simp only [List.mem_cons, List.not_mem_nil, or_false] at h
          rcases h with rfl | rfl | rfl | rfl | rfl <;> assumption
        · exact (uw_cons k5b w h).1)) rfl rfl rfl (X.2.2.2.2.2.2.2.1.1 _ k6) k7 hR) ⟨pcA_blind, hrecv, fun U hU hW => pcA_ok X hP hD hS hn hC U hU hW⟩ rfl (by rw [List.length_map]; exact hk) hl.1 (stk_V hst) (room8 h8) hdg hcs
theorem run_S (X : Cx p s m args meth c D G A cc nL rt own) (K : LkS own idx y b n ret k) (hst : st = avs.reverse ++ rest) (hk : avs.length = k) (h8 : rest.length ≤ 8) (hR : d + 1 ≤ R.frames ∧ 8 + (n + 11) + 40 * d ≤ R.locals) (hcs : cells + mc ≤ R.cells ∧ slots + ms ≤ R.slots) (hdg : decode cc pc = .ok (.invokestatic idx, 3)) (hn : va_nd is = true) (hC : is.map (fun i => ws[i]?) = wc.map some) :
    Runs p l e R s m args below meth c D G A nL cells slots pc L st ws y b n ret d mc ms avs wc rest := by
  intro H locs ls hP hD hS hl Qc free hM
  obtain ⟨⟨k1, k2, k3, k5⟩, k6⟩ := K
  exact va_runS (n := k) (cx_fix X) hM (va_cwS k X.2.2.2.2.1 (uw_goods (fun w hw => by
        rcases List.mem_append.mp hw with h | h
        · simp only [List.mem_cons, List.not_mem_nil, or_false] at h
          rcases h with rfl | rfl | rfl <;> assumption
        · exact (uw_cons k5 w h).1)) rfl rfl rfl k6 hR) ⟨pcA_blind, fun U hU hW => pcA_ok X hP hD hS hn hC U hU hW⟩ rfl (by rw [List.length_map]; exact hk) hl.1 (stk_S hst) (room8 h8) hdg hcs
theorem run_SN {host : String} (X : Cx p s m args meth c D G A cc nL rt own) (K : LkSN own idx host y b n ret k) (hst : st = avs.reverse ++ rest) (hk : avs.length = k) (h8 : rest.length ≤ 8) (hR : d + 1 ≤ R.frames ∧ 8 + (n + 11) + 40 * d ≤ R.locals) (hcs : cells + mc ≤ R.cells ∧ slots + ms ≤ R.slots) (hdg : decode cc pc = .ok (.invokestatic idx, 3)) (hn : va_nd is = true) (hC : is.map (fun i => ws[i]?) = wc.map some) :
    Runs p l e R s m args below meth c D G A nL cells slots pc L st ws y b n ret d mc ms avs wc rest := by
  intro H locs ls hP hD hS hl Qc free hM
  obtain ⟨⟨k1, k2, k3, k5⟩, k6⟩ := K
  exact va_runSN (n := k) (cx_fix X) hM ⟨va_cnB k X.2.2.2.2.1 (uw_cons k5) rfl rfl rfl (X.2.2.2.2.2.2.2.1.1 _ k1) (X.2.2.2.2.1 _ k3) k6 hR, X.2.2.2.2.1 _ k2, trivial⟩ ⟨pcA_blind, fun U hU hW => pcA_ok X hP hD hS hn hC U hU hW⟩ rfl (by rw [List.length_map]; exact hk) hl.1 (stk_S hst) (room8 h8) hdg hcs
theorem run_I (X : Cx p s m args meth c D G A cc nL rt own) (K : LkI own idx y b n k) {a : Nat} (hst : st = avs.reverse ++ rv a :: rest) (hk : avs.length = k) (h8 : rest.length ≤ 8) (hR : d + 1 ≤ R.frames ∧ 8 + (n + 11) + 40 * d ≤ R.locals) (hcs : cells + mc ≤ R.cells ∧ slots + ms ≤ R.slots) (hdg : decode cc pc = .ok (.invokespecial idx, 3)) (hn : va_nd is = true) (hC : is.map (fun i => ws[i]?) = wc.map some) :
    Runs p l e R s m args below meth c D G A nL cells slots pc L st ws y b n none d mc ms (rv a :: avs) wc rest := by
  intro H locs ls hP hD hS hl Qc free hM
  obtain ⟨⟨k1, k2, k3, k5⟩, k6, k7⟩ := K
  exact va_runI (n := k) (cx_fix X) hM (cwI k X.2.2.2.2.1 (uw_cons k5) rfl rfl rfl (X.2.2.2.2.1 _ k3) (X.2.2.2.2.1 _ k1) (X.2.2.2.2.1 _ k2) k7 k6 hR) ⟨pcA_blind, fun U hU hW => pcA_ok (av := rv a :: avs) X hP hD hS hn hC U hU hW⟩ rfl (by rw [List.length_map]; exact hk) hl.1 (stk_V hst) (room8 h8) hdg hcs
theorem run_IN {host : String} (X : Cx p s m args meth c D G A cc nL rt own) (K : LkIN own idx host y b n k) {a : Nat} (hst : st = avs.reverse ++ rv a :: rest) (hk : avs.length = k) (h8 : rest.length ≤ 8) (hR : d + 1 ≤ R.frames ∧ 8 + (n + 11) + 40 * d ≤ R.locals) (hcs : cells + mc ≤ R.cells ∧ slots + ms ≤ R.slots) (hdg : decode cc pc = .ok (.invokespecial idx, 3)) (hn : va_nd is = true) (hC : is.map (fun i => ws[i]?) = wc.map some) :
    Runs p l e R s m args below meth c D G A nL cells slots pc L st ws y b n none d mc ms (rv a :: avs) wc rest := by
  intro H locs ls hP hD hS hl Qc free hM
  obtain ⟨⟨k1, k2, k3, k5⟩, k6, k7⟩ := K
  exact va_runIN (n := k) (cx_fix X) hM ⟨va_cnB k X.2.2.2.2.1 (uw_cons k5) rfl rfl rfl (X.2.2.2.2.2.2.2.1.1 _ k1) (X.2.2.2.2.1 _ k3) k6 hR, k7, X.2.2.2.2.1 _ k2⟩ ⟨pcA_blind, fun U hU hW => pcA_ok (av := rv a :: avs) X hP hD hS hn hC U hU hW⟩ rfl (by rw [List.length_map]; exact hk) hl.1 (stk_V hst) (room8 h8) hdg hcs
-- behind a call that makes nothing: the callee's cells in their places
theorem S_calli {ret1 : FieldType} {Post : Int → EW → Prop} (X : Cx p s m args meth c D G A cc nL rt own) (hM : AMi l y b n ret1 d mc ms av wc Post) (hC : is.map (fun i => ws[i]?) = wc.map some) (hr : Runs p l e R s m args below meth c D G A nL cells slots pc L st ws y b n (some ret1) d mc ms av wc rest) (kk : ∀ (z : Int) (u : EW), Post z u → ∃ _ : u.map (fun q => q.1) = wc.map (fun q => q.1), S_ p l e R s m args below meth c Q D G A nL (cells + mc) (slots + ms) (pc + 3) L (iv z :: rest) (putC ws is u)) : S_ p l e R s m args below meth c Q D G A nL cells slots pc L st ws := by
  intro H locs ls hP hD hS hl
  have hF := va_free (wc := tW G wc) hD hS X.2.2.2.2.2.2.1 is (cut_tW hC)
  refine va_calli (hr H locs ls hP hD hS hl _ _ (hM D G H.size)) hS (fun q _ h => hF q h) hF (fun r u t H1 locs1 ht hvm hw hB hz1 hk1 hS1 => ?_)
  obtain ⟨z, rfl, hp⟩ := hw
  obtain ⟨hu, k2⟩ := kk z u hp
  obtain ⟨hP1, hK1, hD1⟩ := hB
  rw [ht] at hP1
  obtain ⟨hP2, hD2⟩ := va_putC hP hD hC hu hk1 hP1
  exact k2 H1 locs1 ls hP2 hD2 hS1 hl
theorem S_callv {Post : EW → Prop} (X : Cx p s m args meth c D G A cc nL rt own) (hM : AMv l y b n d mc ms av wc Post) (hC : is.map (fun i => ws[i]?) = wc.map some) (hr : Runs p l e R s m args below meth c D G A nL cells slots pc L st ws y b n none d mc ms av wc rest) (kk : ∀ (u : EW), Post u → ∃ _ : u.map (fun q => q.1) = wc.map (fun q => q.1), S_ p l e R s m args below meth c Q D G A nL (cells + mc) (slots + ms) (pc + 3) L rest (putC ws is u)) : S_ p l e R s m args below meth c Q D G A nL cells slots pc L st ws := by
  intro H locs ls hP hD hS hl
  have hF := va_free (wc := tW G wc) hD hS X.2.2.2.2.2.2.1 is (cut_tW hC)
  refine va_callv (hr H locs ls hP hD hS hl _ _ (hM D G H.size)) hS (fun q _ h => hF q h) hF (fun u t H1 locs1 ht hvm hp hB hz1 hk1 hS1 => ?_)
  obtain ⟨hu, k2⟩ := kk u hp
  obtain ⟨hP1, hK1, hD1⟩ := hB
  rw [ht] at hP1
  obtain ⟨hP2, hD2⟩ := va_putC hP hD hC hu hk1 hP1
  exact k2 H1 locs1 ls hP2 hD2 hS1 hl
-- behind a call that makes cells: the rest, then the callee's
theorem S_callvA {Post : EW → Prop} {wr : EW} (isR : List Nat) (X : Cx p s m args meth c D G A cc nL rt own) (hM : AMv l y b n d mc ms av wc Post) (hC : is.map (fun i => ws[i]?) = wc.map some) (hR : isR.map (fun i => ws[i]?) = wr.map some) (hnd : va_nd isR = true) (hdis : ∀ i ∈ isR, i ∉ is) (hr : Runs p l e R s m args below meth c D G A nL cells slots pc L st ws y b n none d mc ms av wc rest) (kk : ∀ (u : EW), Post u → S_ p l e R s m args below meth c Q D G A nL (cells + mc) (slots + ms) (pc + 3) L rest (wr ++ u)) : S_ p l e R s m args below meth c Q D G A nL cells slots pc L st ws := by
  intro H locs ls hP hD hS hl
  have hF := va_free (wc := tW G wc) hD hS X.2.2.2.2.2.2.1 is (cut_tW hC)
  refine va_callv (hr H locs ls hP hD hS hl _ _ (hM D G H.size)) hS (fun q _ h => hF q h) hF (fun u t H1 locs1 ht hvm hp hB hz1 hk1 hS1 => ?_)
  obtain ⟨hP1, hK1, hD1⟩ := hB
  rw [ht] at hP1
  obtain ⟨hP2, hD2⟩ := va_join hP hD is isR (cut_tW hC) (cut_tW hR) hnd hdis hk1 hF hP1 hD1
  have e : tW G wr ++ tW G u = tW G (wr ++ u) := by unfold tW; rw [List.map_append]
  rw [e] at hP2 hD2
  exact kk u hp H1 locs1 ls hP2 hD2 hS1 hl
theorem S_callrA {ret1 : FieldType} {Post : Nat → EW → Prop} {wr : EW} (isR : List Nat) (X : Cx p s m args meth c D G A cc nL rt own) (hM : AMr l y b n ret1 d mc ms av wc Post) (hC : is.map (fun i => ws[i]?) = wc.map some) (hR : isR.map (fun i => ws[i]?) = wr.map some) (hnd : va_nd isR = true) (hdis : ∀ i ∈ isR, i ∉ is) (hr : Runs p l e R s m args below meth c D G A nL cells slots pc L st ws y b n (some ret1) d mc ms av wc rest) (kk : ∀ (a : Nat) (u : EW), Post a u → S_ p l e R s m args below meth c Q D G A nL (cells + mc) (slots + ms) (pc + 3) L (rv a :: rest) (wr ++ u)) : S_ p l e R s m args below meth c Q D G A nL cells slots pc L st ws := by
  intro H locs ls hP hD hS hl
  have hF := va_free (wc := tW G wc) hD hS X.2.2.2.2.2.2.1 is (cut_tW hC)
  refine va_callr (hr H locs ls hP hD hS hl _ _ (hM D G H.size)) hS (fun q _ h => hF q h) hF (fun u a t H1 locs1 ht hvm _ hB hz1 hk1 hS1 => ?_)
  obtain ⟨hp, hP1, hK1, hD1⟩ := hB
  rw [ht] at hP1
  obtain ⟨hP2, hD2⟩ := va_join hP hD is isR (cut_tW hC) (cut_tW hR) hnd hdis hk1 hF hP1 hD1
  have e : tW G wr ++ tW G u = tW G (wr ++ u) := by unfold tW; rw [List.map_append]
  rw [e] at hP2 hD2
  exact kk a u hp H1 locs1 ls hP2 hD2 hS1 hl
theorem S_calliA {ret1 : FieldType} {Post : Int → EW → Prop} {wr : EW} (isR : List Nat) (X : Cx p s m args meth c D G A cc nL rt own) (hM : AMi l y b n ret1 d mc ms av wc Post) (hC : is.map (fun i => ws[i]?) = wc.map some) (hR : isR.map (fun i => ws[i]?) = wr.map some) (hnd : va_nd isR = true) (hdis : ∀ i ∈ isR, i ∉ is) (hr : Runs p l e R s m args below meth c D G A nL cells slots pc L st ws y b n (some ret1) d mc ms av wc rest) (kk : ∀ (z : Int) (u : EW), Post z u → S_ p l e R s m args below meth c Q D G A nL (cells + mc) (slots + ms) (pc + 3) L (iv z :: rest) (wr ++ u)) : S_ p l e R s m args below meth c Q D G A nL cells slots pc L st ws := by
  intro H locs ls hP hD hS hl
  have hF := va_free (wc := tW G wc) hD hS X.2.2.2.2.2.2.1 is (cut_tW hC)
  refine va_calli (hr H locs ls hP hD hS hl _ _ (hM D G H.size)) hS (fun q _ h => hF q h) hF (fun r u t H1 locs1 ht hvm hw hB hz1 hk1 hS1 => ?_)
  obtain ⟨z, rfl, hp⟩ := hw
  obtain ⟨hP1, hK1, hD1⟩ := hB
  rw [ht] at hP1
  obtain ⟨hP2, hD2⟩ := va_join hP hD is isR (cut_tW hC) (cut_tW hR) hnd hdis hk1 hF hP1 hD1
  have e : tW G wr ++ tW G u = tW G (wr ++ u) := by unfold tW; rw [List.map_append]
  rw [e] at hP2 hD2
  exact kk z u hp H1 locs1 ls hP2 hD2 hS1 hl
end SC
end pt_06runs
