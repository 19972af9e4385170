/-! FIELDS: what the tables say of an access, once a place; CONTRACTS; CALLS -/
def FG (own : String) (index ci k : Nat) : Prop := ∃ (C : String) (T : u_T) (N : Nat) (ref : String), vwCl[ci]? = some (C, T, N) ∧ (∀ w ∈ u_ws C T N, w ∈ uw) ∧ k < N ∧ Cond.fieldLink own index ref (T k).2.1 (T k).2.2.1 ∈ uw ∧ (∀ (args : Array Value) (s : State), (∀ w ∈ uw, w.before args s = true) → ∀ x, s.fieldFound? (T k).1 (T k).2.1 (T k).2.2.1 = some x → s.fieldFound? ref (T k).2.1 (T k).2.2.1 = some x)
def FT (ty : FieldType) (v : AV) : Prop := match ty with
  | .int => ∃ z, v = iv z
  | .boolean => v = iv 0 ∨ v = iv 1
  | .object _ => ∃ r, v = .inr r
  | .array _ => ∃ r, v = .inr r
  | _ => False
def FP (own : String) (index ci k : Nat) (ty : FieldType) : Prop := ∃ (C : String) (T : u_T) (N : Nat) (ref : String) (ty0 : Nat → FieldType), vwCl[ci]? = some (C, T, N) ∧ (∀ w ∈ u_ws C T N, w ∈ uw) ∧ k < N ∧ Cond.fieldLink own index ref (T k).2.1 (T k).2.2.1 ∈ uw ∧ (∀ (args : Array Value) (s : State), (∀ w ∈ uw, w.before args s = true) → ∀ x, s.fieldFound? (T k).1 (T k).2.1 (T k).2.2.1 = some x → s.fieldFound? ref (T k).2.1 (T k).2.2.1 = some x) ∧ (∀ k, k < N → parseFieldDescriptor (T k).2.2.1 = some (ty0 k)) ∧ (∀ a, a < N → ∀ b, b < N → a ≠ b → (T a).2.1 ≠ (T b).2.1) ∧ (T k).2.2.2 = false ∧ parseFieldDescriptor (T k).2.2.1 = some ty
def FPF (own : String) (index ci k : Nat) (ty : FieldType) : Prop := ∃ (C : String) (T : u_T) (N : Nat) (ref : String) (ty0 : Nat → FieldType), vwCl[ci]? = some (C, T, N) ∧ (∀ w ∈ u_ws C T N, w ∈ uw) ∧ k < N ∧ Cond.fieldLink own index ref (T k).2.1 (T k).2.2.1 ∈ uw ∧ (∀ (args : Array Value) (s : State), (∀ w ∈ uw, w.before args s = true) → ∀ x, s.fieldFound? (T k).1 (T k).2.1 (T k).2.2.1 = some x → s.fieldFound? ref (T k).2.1 (T k).2.2.1 = some x) ∧ (∀ k, k < N → parseFieldDescriptor (T k).2.2.1 = some (ty0 k)) ∧ (∀ a, a < N → ∀ b, b < N → a ≠ b → (T a).2.1 ≠ (T b).2.1) ∧ (T k).2.2.2 = true ∧ parseFieldDescriptor (T k).2.2.1 = some ty ∧ (T k).1 = own
theorem FT.fit {ty : FieldType} {v : AV} (h : FT ty v) : narrow ty (tV v) = tV v ∧ fits ty (tV v) = true := by
  unfold FT at h
  split at h
  · obtain ⟨z, rfl⟩ := h; exact ⟨rfl, rfl⟩
  · rcases h with rfl | rfl
    · exact ⟨by decide, by decide⟩
    · exact ⟨by decide, by decide⟩
  · obtain ⟨r, rfl⟩ := h; cases r <;> exact ⟨rfl, rfl⟩
  · obtain ⟨r, rfl⟩ := h; cases r <;> exact ⟨rfl, rfl⟩
  · exact h.elim
theorem nF_of {ci N : Nat} {C : String} {T : u_T} (h : vwCl[ci]? = some (C, T, N)) : nF ci = N := by
  unfold nF
  rw [h]
def putC : EW → List Nat → EW → EW
  | ws, [], u => ws ++ u
  | ws, _ :: _, [] => ws
  | ws, i :: is, x :: u => putC (ws.set i x) is u
def rmD (d mc ms : Nat) : Room := { frames := d, cells := mc, slots := ms, locals := 40 * d }
def BW (D : va_G) (G : GG) (A : Nat → Prop) (ws : EW) (t : State) : Prop := va_P D vwCl (tW G ws) t.heap ∧ va_K D vwCl (tyG G) t ∧ va_D A (tW G ws)
def PcA (D : va_G) (G : GG) (av : List AV) (ws : EW) (sz : Nat) : Array Value → State → Prop := va_Pc (av.map tV) (fun U => U.heap.size = sz ∧ va_P D vwCl (tW G ws) U.heap ∧ va_K D vwCl (tyG G) U ∧ va_D (fun _ => True) (tW G ws) ∧ Ev (va_A (tW G ws) sz) U U.heap)
def QcI (D : va_G) (G : GG) (A : Nat → Prop) (Post : Int → EW → Prop) : Array Value → State → Outcome → State → Prop := va_Qi (fun (r : Int32) (u : EW) => ∃ z : Int, r = i32 z ∧ Post z u) (BW D G A) A
def QcV (D : va_G) (G : GG) (A : Nat → Prop) (Post : EW → Prop) : Array Value → State → Outcome → State → Prop := va_Qv Post (BW D G A) A
def QcR (D : va_G) (G : GG) (A : Nat → Prop) (Post : Nat → EW → Prop) : Array Value → State → Outcome → State → Prop := va_Qr (fun _ : EW => True) (fun u a t => Post a u ∧ BW D G A u t) A
/-- the contracts: an int's, nobody's, a reference's -/
def AMi (l : Launch) (y : MethodName) (b : ByteArray) (n : Nat) (ret : FieldType) (d mc ms : Nat) (av : List AV) (ws : EW) (Post : Int → EW → Prop) : Prop :=
  ∀ (D : va_G) (G : GG) (sz : Nat), Met l y (.code y b n (some ret) :: uw) (rmD d mc ms) (PcA D G av ws sz) (QcI D G (va_A (tW G ws) sz) Post) mc ms (va_A (tW G ws) sz)
def AMv (l : Launch) (y : MethodName) (b : ByteArray) (n : Nat) (d mc ms : Nat) (av : List AV) (ws : EW) (Post : EW → Prop) : Prop :=
  ∀ (D : va_G) (G : GG) (sz : Nat), Met l y (.code y b n none :: uw) (rmD d mc ms) (PcA D G av ws sz) (QcV D G (va_A (tW G ws) sz) Post) mc ms (va_A (tW G ws) sz)
def AMr (l : Launch) (y : MethodName) (b : ByteArray) (n : Nat) (ret : FieldType) (d mc ms : Nat) (av : List AV) (ws : EW) (Post : Nat → EW → Prop) : Prop :=
  ∀ (D : va_G) (G : GG) (sz : Nat), Met l y (.code y b n (some ret) :: uw) (rmD d mc ms) (PcA D G av ws sz) (QcR D G (va_A (tW G ws) sz) Post) mc ms (va_A (tW G ws) sz)
def aL (av : List AV) : Nat → Option AV := fun i => av[i]?
theorem lg_sl_map (av : List AV) : lg_sl (av.map tV) = av.map (fun v => Slot.val (tV v)) := by
  induction av with
  | nil => rfl
  | cons v t ih =>
    rcases v with z | r
    · show Slot.val _ :: lg_sl (t.map tV) = _
      rw [ih]; rfl
    · cases r <;> (show Slot.val _ :: lg_sl (t.map tV) = _; rw [ih]; rfl)
theorem LH.entry (av : List AV) {n : Nat} (h : av.length ≤ n) : LH ((lg_sl (av.map tV) ++ List.replicate (n - (lg_sl (av.map tV)).length) Slot.unset).toArray) n (aL av) := by
  have hlen : (lg_sl (av.map tV)).length = av.length := by rw [lg_sl_map, List.length_map]
  have h0 := lv_entry (av.map tV) (n := n) (by rw [hlen]; exact h)
  refine ⟨h0.1, h0.2.1, fun i v hv => ?_⟩
  have hv' : av[i]? = some v := hv
  have hi : i < av.length := (List.getElem?_eq_some_iff.mp hv').1
  rw [List.getElem?_toArray, List.getElem?_append_left (by rw [hlen]; exact hi), lg_sl_map, List.getElem?_map, hv']
  rfl
section SB
variable {l : Launch} {y : MethodName} {b : ByteArray} {n d mc ms : Nat} {av : List AV} {ws : EW}
theorem AM_body {ret : Option FieldType} {Qc : va_G → GG → Nat → Array Value → State → Outcome → State → Prop} (D : va_G) (G : GG) (sz : Nat) (hy : plainName y.cls = true) (hn : av.length ≤ n)
    (body : ∀ (p : Program) (e : Env) (s : State) (m : MethodId) (args : Array Value) (below : List Frame) (meth : Method) (c : Code), s.heap.size = sz → meth.name = y.name → Cx p s m args meth c D G (va_A (tW G ws) s.heap.size) b n ret y.cls →
      S_ p l e (rmD d mc ms) s m args below meth c (MQ below (Qc D G s.heap.size) args s mc ms (va_A (tW G ws) s.heap.size)) D G (va_A (tW G ws) s.heap.size) n 0 0 0 (aL av) [] ws) :
    Met l y (.code y b n ret :: uw) (rmD d mc ms) (PcA D G av ws sz) (Qc D G sz) mc ms (va_A (tW G ws) sz) := by
  refine Met.ofW (cc := b) (maxL := n) (ret := ret) hy rfl ?_
  intro p e s m args below meth c s₁ B hml hv
  obtain ⟨rfl, hsz, hP, hK, hD0, hE⟩ := hv
  have hts := atoms_spec (ws := Cond.code y b n ret :: uw) B.pre
  have hown : s.vm.findClass y.cls = some m.cls := findClass_of_methodNamed B.named
  have hname : meth.name = y.name := (name_of_methodNamed B.named B.method).1
  subst hsz
  have X : Cx p s m ((av.map tV).toArray) meth c D G (va_A (tW G ws) s.heap.size) b n ret y.cls := ⟨B.exec, B.bytes, hml, hown, fun w h => hts w (List.mem_cons_of_mem _ h), hK, fun q h => Or.inr h, hE, B.returns, B.notSynchronized⟩
  rw [lg_entry_eq]
  exact body p e s m _ below meth c rfl hname X s.heap [] _ hP hD0.self va_S.rf (LH.entry av hn)
theorem AMi.of {ret : FieldType} {Post : Int → EW → Prop} (hy : plainName y.cls = true) (hn : av.length ≤ n)
    (body : ∀ (D : va_G) (G : GG) (A : Nat → Prop) (p : Program) (e : Env) (s : State) (m : MethodId) (args : Array Value) (below : List Frame) (meth : Method) (c : Code), Cx p s m args meth c D G A b n (some ret) y.cls →
      S_ p l e (rmD d mc ms) s m args below meth c (MQ below (QcI D G A Post) args s mc ms A) D G A n 0 0 0 (aL av) [] ws) : AMi l y b n ret d mc ms av ws Post := by
  intro D G sz
  refine AM_body (Qc := fun D G sz => QcI D G (va_A (tW G ws) sz) Post) D G sz hy hn ?_
  intro p e s m args below meth c _ _ X
  exact body D G _ p e s m args below meth c X
theorem AMv.of {Post : EW → Prop} (hy : plainName y.cls = true) (hn : av.length ≤ n)
    (body : ∀ (D : va_G) (G : GG) (A : Nat → Prop) (p : Program) (e : Env) (s : State) (m : MethodId) (args : Array Value) (below : List Frame) (meth : Method) (c : Code), meth.name = y.name → Cx p s m args meth c D G A b n none y.cls →
      S_ p l e (rmD d mc ms) s m args below meth c (MQ below (QcV D G A Post) args s mc ms A) D G A n 0 0 0 (aL av) [] ws) : AMv l y b n d mc ms av ws Post := by
  intro D G sz
  refine AM_body (Qc := fun D G sz => QcV D G (va_A (tW G ws) sz) Post) D G sz hy hn ?_
  intro p e s m args below meth c _ hnm X
  exact body D G _ p e s m args below meth c hnm X
theorem AMr.of {ret : FieldType} {Post : Nat → EW → Prop} (hy : plainName y.cls = true) (hn : av.length ≤ n)
    (body : ∀ (D : va_G) (G : GG) (A : Nat → Prop) (p : Program) (e : Env) (s : State) (m : MethodId) (args : Array Value) (below : List Frame) (meth : Method) (c : Code), Cx p s m args meth c D G A b n (some ret) y.cls →
      S_ p l e (rmD d mc ms) s m args below meth c (MQ below (QcR D G A Post) args s mc ms A) D G A n 0 0 0 (aL av) [] ws) : AMr l y b n ret d mc ms av ws Post := by
  intro D G sz
  refine AM_body (Qc := fun D G sz => QcR D G (va_A (tW G ws) sz) Post) D G sz hy hn ?_
  intro p e s m args below meth c _ _ X
  exact body D G _ p e s m args below meth c X
end SB
section SF
variable {p : Program} {l : Launch} {e : Env} {R : Room} {s : State} {m : MethodId} {args : Array Value} {below : List Frame} {meth : Method} {c : Code} {Q : State → Prop} {D : va_G} {G : GG} {A : Nat → Prop} {cc : ByteArray} {nL cells slots pc : Nat} {rt : Option FieldType} {own : String} {L : Nat → Option AV} {st : List AV} {ws : EW}
theorem S_get (X : Cx p s m args meth c D G A cc nL rt own) {index ci k : Nat} (F : FG own index ci k) (q0 : Nat) {a : Nat} {f : Nat → AV} {v : AV} (he : ws[q0]? = some (a, ob ci f)) (hv : f k = v) (hdg : decode cc pc = .ok (.getfield index, 3)) (kk : S_ p l e R s m args below meth c Q D G A nL cells slots (pc + 3) L (v :: st) ws) : S_ p l e R s m args below meth c Q D G A nL cells slots pc L (rv a :: st) ws := by
  intro H locs ls hP hD hS hl
  obtain ⟨C, T, N, ref, hc, hin, hk, hlk, hsame⟩ := F
  have hc2 := hc
  have hfs : ((List.range (nF ci)).map (fun k => tV (f k)))[k]? = some (tV v) := by rw [nF_of hc, ← hv]; exact tF_at hk
  exact va_get X.1 X.2.1 X.2.2.2.2.1 hin X.2.2.2.1 X.2.2.2.2.2.1 hP q0 (tW_at he) hc2 k hk (X.2.2.2.2.1 _ hlk) (hsame args s X.2.2.2.2.1) hfs hdg (kk H locs ls hP hD hS hl)
theorem S_put (X : Cx p s m args meth c D G A cc nL rt own) {index ci k : Nat} {ty : FieldType} (F : FP own index ci k ty) (q0 : Nat) {a : Nat} {f : Nat → AV} {v : AV} (he : ws[q0]? = some (a, ob ci f)) (hv : FT ty v) (hdg : decode cc pc = .ok (.putfield index, 3)) (kk : S_ p l e R s m args below meth c Q D G A nL cells slots (pc + 3) L st (ws.set q0 (a, ob ci (uF f k v)))) : S_ p l e R s m args below meth c Q D G A nL cells slots pc L (v :: rv a :: st) ws := by
  intro H locs ls hP hD hS hl
  obtain ⟨C, T, N, ref, ty0, hc, hin, hk, hlk, hsame, hty, hnm, hfin, hd⟩ := F
  have hc2 := hc
  have hlen : k < ((List.range (nF ci)).map (fun k => tV (f k))).length := by rw [nF_of hc, List.length_map, List.length_range]; exact hk
  refine va_put X.1 X.2.1 X.2.2.2.2.1 hin ty0 hty hnm X.2.2.2.1 X.2.2.2.2.2.1 hP hD hS q0 (tW_at he) hc2 k hk (X.2.2.2.2.1 _ hlk) (hsame args s X.2.2.2.2.1) hfin hd hv.fit.1 hv.fit.2 hlen hdg (fun H1 locs1 hP1 hD1 hS1 => ?_)
  rw [tF_set] at hP1 hD1
  have e1 : (tW G ws).set q0 (a, .inr (ci, (List.range (nF ci)).map (fun j => tV (uF f k v j)))) = tW G (ws.set q0 (a, ob ci (uF f k v))) := tW_set (x := ob ci (uF f k v))
  rw [e1] at hP1 hD1
  exact kk H1 locs1 ls hP1 hD1 hS1 hl
theorem S_putF (X : Cx p s m args meth c D G A cc nL rt own) (hin2 : meth.name = "<init>") {index ci k : Nat} {ty : FieldType} (F : FPF own index ci k ty) (q0 : Nat) {a : Nat} {f : Nat → AV} {v : AV} (he : ws[q0]? = some (a, ob ci f)) (hv : FT ty v) (hdg : decode cc pc = .ok (.putfield index, 3)) (kk : S_ p l e R s m args below meth c Q D G A nL cells slots (pc + 3) L st (ws.set q0 (a, ob ci (uF f k v)))) : S_ p l e R s m args below meth c Q D G A nL cells slots pc L (v :: rv a :: st) ws := by
  intro H locs ls hP hD hS hl
  obtain ⟨C, T, N, ref, ty0, hc, hin, hk, hlk, hsame, hty, hnm, hfin, hd, hdecl⟩ := F
  have hc2 := hc
  have hlen : k < ((List.range (nF ci)).map (fun k => tV (f k))).length := by rw [nF_of hc, List.length_map, List.length_range]; exact hk
  refine va_putF X.1 X.2.1 X.2.2.2.2.1 hin ty0 hty hnm X.2.2.2.1 X.2.2.2.2.2.1 hP hD hS q0 (tW_at he) hc2 k hk (X.2.2.2.2.1 _ hlk) (hsame args s X.2.2.2.2.1) hfin hin2 hdecl hd hv.fit.1 hv.fit.2 hlen hdg (fun H1 locs1 hP1 hD1 hS1 => ?_)
  rw [tF_set] at hP1 hD1
  have e1 : (tW G ws).set q0 (a, .inr (ci, (List.range (nF ci)).map (fun j => tV (uF f k v j)))) = tW G (ws.set q0 (a, ob ci (uF f k v))) := tW_set (x := ob ci (uF f k v))
  rw [e1] at hP1 hD1
  exact kk H1 locs1 ls hP1 hD1 hS1 hl
-- ends
theorem S_iret {Post : Int → EW → Prop} {mc ms : Nat} (X : Cx p s m args meth c D G A cc nL (some .int) own) {z : Int} (hc1 : cells ≤ mc) (hc2 : slots ≤ ms) (hdg : decode cc pc = .ok (.ireturn, 1)) (hp : Post z ws) : S_ p l e R s m args below meth c (MQ below (QcI D G A Post) args s mc ms A) D G A nL cells slots pc L [iv z] ws := by
  intro H locs ls hP hD hS hl
  refine W.widen (k := mc) (n := ms) hc1 hc2 ?_
  exact W.iret (v := i32 z) X.1 X.2.1 X.2.2.2.2.2.2.2.2.1 (fun t ht hW => ⟨⟨i32 z, ws, rfl, ⟨z, rfl, hp⟩, by rw [ht]; exact hP, va_K.moved hW.alike X.2.2.2.2.2.1, hD⟩, hS.F ht⟩) hS.2.2 hdg X.2.2.2.2.2.2.2.2.2
theorem S_zret {Post : Int → EW → Prop} {mc ms : Nat} (X : Cx p s m args meth c D G A cc nL (some .boolean) own) {z : Int} (hz : z = 0 ∨ z = 1) (hc1 : cells ≤ mc) (hc2 : slots ≤ ms) (hdg : decode cc pc = .ok (.ireturn, 1)) (hp : Post z ws) : S_ p l e R s m args below meth c (MQ below (QcI D G A Post) args s mc ms A) D G A nL cells slots pc L [iv z] ws := by
  intro H locs ls hP hD hS hl
  refine W.widen (k := mc) (n := ms) hc1 hc2 ?_
  exact W.zret (v := i32 z) X.1 X.2.1 X.2.2.2.2.2.2.2.2.1 (by rcases hz with rfl | rfl <;> decide) (fun t ht hW => ⟨⟨i32 z, ws, rfl, ⟨z, rfl, hp⟩, by rw [ht]; exact hP, va_K.moved hW.alike X.2.2.2.2.2.1, hD⟩, hS.F ht⟩) hS.2.2 hdg X.2.2.2.2.2.2.2.2.2
theorem S_vret {Post : EW → Prop} {mc ms : Nat} (X : Cx p s m args meth c D G A cc nL none own) (hc1 : cells ≤ mc) (hc2 : slots ≤ ms) (hdg : decode cc pc = .ok (.return_, 1)) (hp : Post ws) : S_ p l e R s m args below meth c (MQ below (QcV D G A Post) args s mc ms A) D G A nL cells slots pc L [] ws := by
  intro H locs ls hP hD hS hl
  refine W.widen (k := mc) (n := ms) hc1 hc2 ?_
  exact W.vret X.1 X.2.1 X.2.2.2.2.2.2.2.2.1 (fun t ht hW => ⟨⟨ws, rfl, hp, by rw [ht]; exact hP, va_K.moved hW.alike X.2.2.2.2.2.1, hD⟩, hS.F ht⟩) hS.2.2 hdg X.2.2.2.2.2.2.2.2.2
end SF
