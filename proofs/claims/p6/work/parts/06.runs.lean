/-! CALLS: what the tables say of a call (once a place), the run of the callee, the world behind it -/
def okD (y : MethodName) (k : Nat) : Prop := y.cls ≠ "java/lang/invoke/MethodHandle" ∧ y.cls ≠ "java/lang/invoke/VarHandle" ∧ (parseMethodDescriptor y.desc).map (fun d => d.parameters.length) = some k
def LkV (own : String) (idx : Nat) (y : MethodName) (b : ByteArray) (n : Nat) (ret : Option FieldType) (k : Nat) : Prop := (Cond.methodLink own idx y ∈ uw ∧ Cond.instanceMethod y ∈ uw ∧ Cond.selects y.cls y y ∈ uw ∧ Cond.initialized y.cls ∈ uw ∧ Cond.code y b n ret ∈ uw) ∧ okD y k
def LkS (own : String) (idx : Nat) (y : MethodName) (b : ByteArray) (n : Nat) (ret : Option FieldType) (k : Nat) : Prop := (Cond.methodLink own idx y ∈ uw ∧ Cond.static y ∈ uw ∧ Cond.initialized y.cls ∈ uw ∧ Cond.code y b n ret ∈ uw) ∧ okD y k
def LkI (own : String) (idx : Nat) (y : MethodName) (b : ByteArray) (n : Nat) (k : Nat) : Prop := (Cond.methodLink own idx y ∈ uw ∧ Cond.instanceMethod y ∈ uw ∧ Cond.initialized y.cls ∈ uw ∧ Cond.code y b n none ∈ uw) ∧ okD y k ∧ y.name = "<init>"
def LkSN (own : String) (idx : Nat) (host : String) (y : MethodName) (b : ByteArray) (n : Nat) (ret : Option FieldType) (k : Nat) : Prop := (Cond.methodLinkNest own idx y host ∈ nw ∧ Cond.static y ∈ uw ∧ Cond.initialized y.cls ∈ uw ∧ Cond.code y b n ret ∈ uw) ∧ okD y k
def LkIN (own : String) (idx : Nat) (host : String) (y : MethodName) (b : ByteArray) (n : Nat) (k : Nat) : Prop := (Cond.methodLinkNest own idx y host ∈ nw ∧ Cond.instanceMethod y ∈ uw ∧ Cond.initialized y.cls ∈ uw ∧ Cond.code y b n none ∈ uw) ∧ okD y k ∧ y.name = "<init>"
def LkU (own : String) (idx : Nat) (C owner : String) (x y : MethodName) (b : ByteArray) (n : Nat) (ret : Option FieldType) (k : Nat) : Prop := (Cond.methodLink own idx x ∈ uw ∧ Cond.sameMethod x.cls owner x.name x.desc ∈ uw ∧ Cond.selects C x y ∈ uw ∧ Cond.instanceMethod y ∈ uw ∧ Cond.initialized y.cls ∈ uw ∧ Cond.code y b n ret ∈ uw) ∧ y = ⟨owner, x.name, x.desc⟩ ∧ okD ⟨owner, x.name, x.desc⟩ k
def LkA (own : String) (idx : Nat) (C owner : String) (x y : MethodName) (b : ByteArray) (n : Nat) (ret : Option FieldType) (k : Nat) : Prop := (Cond.methodLink own idx x ∈ uw ∧ Cond.sameMethod x.cls owner x.name x.desc ∈ uw ∧ Cond.selects C x y ∈ uw ∧ Cond.instanceMethod y ∈ uw ∧ Cond.initialized y.cls ∈ uw ∧ Cond.code y b n ret ∈ uw) ∧ Cond.declares ⟨owner, x.name, x.desc⟩ ∈ nw ∧ okD ⟨owner, x.name, x.desc⟩ k
def clN (ci : Nat) : String := match vwCl[ci]? with
  | some r => r.1
  | none => ""
theorem putC_at : ∀ (is : List Nat) (u ws : EW), u.length = is.length → ∀ (k : Nat) (q : Nat × EE), (putC ws is u)[k]? = some q → (∃ j : Nat, is[j]? = some k ∧ u[j]? = some q) ∨ (k ∉ is ∧ ws[k]? = some q) := by
  intro is
  induction is with
  | nil =>
    intro u ws hlen k q h
    cases u with
    | nil => rw [putC, List.append_nil] at h; exact Or.inr ⟨List.not_mem_nil, h⟩
    | cons x u => cases hlen
  | cons i is ih =>
    intro u ws hlen k q h
    cases u with
    | nil => cases hlen
    | cons x u =>
      rw [putC] at h
      rcases ih u (ws.set i x) (Nat.succ.inj hlen) k q h with ⟨j, h1, h2⟩ | ⟨h1, h2⟩
      · exact Or.inl ⟨j + 1, h1, h2⟩
      · rw [List.getElem?_set] at h2
        by_cases e : i = k
        · subst e
          rw [if_pos rfl] at h2
          by_cases hl : i < ws.length
          · rw [if_pos hl] at h2
            exact Or.inl ⟨0, rfl, h2⟩
          · rw [if_neg hl] at h2; cases h2
        · rw [if_neg e] at h2
          refine Or.inr ⟨fun hm => ?_, h2⟩
          rcases List.mem_cons.mp hm with h3 | h3
          · exact e h3.symm
          · exact h1 h3
theorem putC_fst : ∀ (is : List Nat) (u ws : EW), u.length = is.length → (∀ (j i : Nat) (x : Nat × EE), is[j]? = some i → u[j]? = some x → (ws.map (fun q => q.1))[i]? = some x.1) → (putC ws is u).map (fun q => q.1) = ws.map (fun q => q.1) := by
  intro is
  induction is with
  | nil =>
    intro u ws hlen _
    cases u with
    | nil => rw [putC, List.append_nil]
    | cons x u => cases hlen
  | cons i is ih =>
    intro u ws hlen h
    cases u with
    | nil => cases hlen
    | cons x u =>
      have e : (ws.set i x).map (fun q => q.1) = ws.map (fun q => q.1) := by
        rw [List.map_set]
        apply List.ext_getElem?
        intro j
        rw [List.getElem?_set]
        by_cases hj : i = j
        · subst hj
          have h0 := h 0 i x rfl rfl
          rw [if_pos rfl, if_pos (List.getElem?_eq_some_iff.mp h0).1, h0]
        · rw [if_neg hj]
      rw [putC, ih u (ws.set i x) (Nat.succ.inj hlen) (fun j i' x' h1 h2 => by rw [e]; exact h (j + 1) i' x' h1 h2), e]
theorem tW_fst {G : GG} {ws : EW} : (tW G ws).map (fun q => q.1) = ws.map (fun q => q.1) := by
  unfold tW
  rw [List.map_map]
  rfl
theorem va_D_fst {A : Nat → Prop} {G : GG} {ws ws' : EW} (h : ws'.map (fun q => q.1) = ws.map (fun q => q.1)) (hD : va_D A (tW G ws)) : va_D A (tW G ws') := by
  have key : ∀ (k : Nat) (q : Nat × va_E), (tW G ws')[k]? = some q → ∃ q2, (tW G ws)[k]? = some q2 ∧ q2.1 = q.1 := by
    intro k q hk
    have h1 : ((tW G ws').map (fun q => q.1))[k]? = some q.1 := by rw [List.getElem?_map, hk]; rfl
    rw [tW_fst, h, ← tW_fst (G := G), List.getElem?_map] at h1
    cases h2 : (tW G ws)[k]? with
    | none => rw [h2] at h1; cases h1
    | some q2 => rw [h2] at h1; exact ⟨q2, rfl, Option.some.inj h1⟩
  refine ⟨fun i j x y hi hj hxy => ?_, fun k q hk => ?_⟩
  · obtain ⟨x2, a1, a2⟩ := key i x hi
    obtain ⟨y2, b1, b2⟩ := key j y hj
    exact hD.1 i j x2 y2 a1 b1 (by rw [a2, b2, hxy])
  · obtain ⟨q2, a1, a2⟩ := key k q hk
    rw [← a2]
    exact hD.2 k q2 a1
theorem cut_at {α : Type} {ws wc : List α} {is : List Nat} (h : is.map (fun i => ws[i]?) = wc.map some) {j : Nat} {x : α} (hx : wc[j]? = some x) : ∃ i, is[j]? = some i ∧ ws[i]? = some x := by
  have h1 : (is.map (fun i => ws[i]?))[j]? = some (some x) := by rw [h, List.getElem?_map, hx]; rfl
  rw [List.getElem?_map] at h1
  cases hi : is[j]? with
  | none => rw [hi] at h1; cases h1
  | some i => rw [hi] at h1; exact ⟨i, rfl, Option.some.inj h1⟩
theorem cut_tW {G : GG} {ws wc : EW} {is : List Nat} (h : is.map (fun i => ws[i]?) = wc.map some) : is.map (fun i => (tW G ws)[i]?) = (tW G wc).map some := by
  have e : is.map (fun i => (tW G ws)[i]?) = (is.map (fun i => ws[i]?)).map (fun o => o.map (fun q => (q.1, tE G q.2))) := by
    rw [List.map_map]
    apply List.map_congr_left
    intro i _
    unfold tW
    rw [List.getElem?_map]
    rfl
  rw [e, h]
  unfold tW
  rw [List.map_map, List.map_map]
  rfl
theorem va_putC {A : Nat → Prop} {D : va_G} {G : GG} {ws wc u : EW} {H H1 : Heap} {is : List Nat} (hP : va_P D vwCl (tW G ws) H) (hD : va_D A (tW G ws)) (hC : is.map (fun i => ws[i]?) = wc.map some) (hu : u.map (fun q => q.1) = wc.map (fun q => q.1)) (hk : ∀ q : Nat, q < H.size → ¬ va_A (tW G wc) H.size q → H1[q]? = H[q]?) (hP1 : va_P D vwCl (tW G u) H1) : va_P D vwCl (tW G (putC ws is u)) H1 ∧ va_D A (tW G (putC ws is u)) := by
  have hl1 : wc.length = is.length := by
    have := congrArg List.length hC
    rw [List.length_map, List.length_map] at this
    exact this.symm
  have hl2 : u.length = is.length := by
    have := congrArg List.length hu
    rw [List.length_map, List.length_map] at this
    omega
  refine ⟨fun k q hq => ?_, va_D_fst (putC_fst is u ws hl2 (fun j i x h1 h2 => ?_)) hD⟩
  · unfold tW at hq
    rw [List.getElem?_map] at hq
    cases h0 : (putC ws is u)[k]? with
    | none => rw [h0] at hq; cases hq
    | some q0 =>
      rw [h0] at hq
      cases hq
      rcases putC_at is u ws hl2 k q0 h0 with ⟨j, h1, h2⟩ | ⟨h1, h2⟩
      · exact hP1 j _ (tW_at (a := q0.1) (x := q0.2) h2)
      · have hq1 := hP k _ (tW_at (a := q0.1) (x := q0.2) h2)
        refine hq1.kept (hk q0.1 hq1.lt (fun hA => ?_))
        rcases hA with ⟨j, e, hj⟩ | hA
        · obtain ⟨i, h3, h4⟩ := cut_at (cut_tW (G := G) hC) hj
          have hik := hD.1 k i _ _ (tW_at (a := q0.1) (x := q0.2) h2) h4 rfl
          subst hik
          exact h1 (List.mem_of_getElem? h3)
        · have := hq1.lt
          exact absurd hA (Nat.not_le.mpr this)
  · have h3 : (u.map (fun q => q.1))[j]? = some x.1 := by rw [List.getElem?_map, h2]; rfl
    rw [hu, List.getElem?_map] at h3
    cases h4 : wc[j]? with
    | none => rw [h4] at h3; cases h3
    | some w =>
      rw [h4] at h3
      obtain ⟨i2, h5, h6⟩ := cut_at hC h4
      rw [h1] at h5
      cases h5
      rw [List.getElem?_map, h6, ← Option.some.inj h3]
      rfl
section SC
variable {p : Program} {l : Launch} {e : Env} {R : Room} {s : State} {m : MethodId} {args : Array Value} {below : List Frame} {meth : Method} {c : Code} {Q : State → Prop} {D : va_G} {G : GG} {A : Nat → Prop} {cc : ByteArray} {nL cells slots pc : Nat} {rt : Option FieldType} {own : String} {L : Nat → Option AV} {st : List AV} {ws : EW}
variable {y : MethodName} {b : ByteArray} {n d mc ms idx k : Nat} {ret : Option FieldType} {av avs rest : List AV} {wc : EW} {Qc : Array Value → State → Outcome → State → Prop} {is : List Nat} {H : Heap} {locs : List Loc} {ls : Array Slot}
theorem cx_fix (X : Cx p s m args meth c D G A cc nL rt own) : CallFix p m c cc nL s args uw own := ⟨X.1, X.2.1, X.2.2.1, X.2.2.2.1, X.2.2.2.2.1⟩
theorem pcA_blind {sz : Nat} : FrameBlind (PcA D G av wc sz) := by
  intro a U g mk q
  obtain ⟨q0, q1, qP, qK, qD, qE⟩ := q
  exact ⟨q0, q1, qP, va_K.moved (u := U) (U := U.calling g mk a) (Vm.Alike.refl U.vm) qK, qD, Ev.same qE rfl⟩
theorem pcA_ok (X : Cx p s m args meth c D G A cc nL rt own) (hP : va_P D vwCl (tW G ws) H) (hD : va_D A (tW G ws)) (hS : va_S A s.heap H locs) (hn : va_nd is = true) (hC : is.map (fun i => ws[i]?) = wc.map some) (U : State) (hU : U.heap = H) (hW : s.WarmedH U.vm) : PcA D G av wc H.size (av.map tV).toArray U := by
  have hF := va_free (wc := tW G wc) hD hS X.2.2.2.2.2.2.1 is (cut_tW hC)
  refine ⟨rfl, by rw [hU], ?_, va_K.moved hW.alike X.2.2.2.2.2.1, ?_, ?_⟩
  · rw [hU]
    intro j q hj
    obtain ⟨i, -, h2⟩ := cut_at (cut_tW (G := G) hC) hj
    exact hP i q h2
  · exact (hD.sub is hn (cut_tW hC)).weaken (fun _ _ _ _ => trivial)
  · rw [hU]
    exact Ev.go X.2.2.2.2.2.2.2.1 hW (fun a h1 h2 => hS.2.1 a h1 h2) hF
def Runs (p : Program) (l : Launch) (e : Env) (R : Room) (s : State) (m : MethodId) (args : Array Value) (below : List Frame) (meth : Method) (c : Code) (D : va_G) (G : GG) (A : Nat → Prop) (nL cells slots pc : Nat) (L : Nat → Option AV) (st : List AV) (ws : EW) (y : MethodName) (b : ByteArray) (n : Nat) (ret : Option FieldType) (d mc ms : Nat) (av : List AV) (wc : EW) (rest : List AV) : Prop :=
  ∀ (H : Heap) (locs : List Loc) (ls : Array Slot), va_P D vwCl (tW G ws) H → va_D A (tW G ws) → va_S A s.heap H locs → LH ls nL L → ∀ (Qc : Array Value → State → Outcome → State → Prop) (free : Addr → Prop), Met l y (.code y b n ret :: uw) (rmD d mc ms) (PcA D G av wc H.size) Qc mc ms free → va_Run p l e R s m args below meth c H locs cells slots mc ms (F0 m pc ls (st.map tV)) (rest.map tV) (Qc (av.map tV).toArray) free
theorem room8 {st0 : List Value} {rest0 : List AV} (h : rest0.length ≤ 8) {m : MethodId} {pc : Nat} {ls : Array Slot} : 2 * (F0 m pc ls st0).monitorRoom + ((rest0.map tV).map fun v => v.category).sum ≤ 8 := by
  have e : ((rest0.map tV).map fun v => v.category).sum = rest0.length := by
    clear h
    induction rest0 with
    | nil => rfl
    | cons v t ih => simp only [List.map_cons, List.sum_cons, List.length_cons, ih, tV_cat]; omega
  show 2 * 0 + _ ≤ 8
  omega
theorem stk_V {avs : List AV} {a : Nat} {rest : List AV} (h : st = avs.reverse ++ rv a :: rest) : st.map tV = (avs.map tV).reverse ++ Value.ref a :: rest.map tV := by
  rw [h, List.map_append, List.map_reverse]
  rfl
theorem stk_S {avs rest : List AV} (h : st = avs.reverse ++ rest) : st.map tV = (avs.map tV).reverse ++ rest.map tV := by
  rw [h, List.map_append, List.map_reverse]
theorem uw_cons {y : MethodName} {b : ByteArray} {n : Nat} {ret : Option FieldType} (h : Cond.code y b n ret ∈ uw) : GoodIn uw (Cond.code y b n ret :: uw) := uw_goods (fun w hw => (List.mem_cons.mp hw).elim (fun e => e ▸ h) id)
theorem run_V (X : Cx p s m args meth c D G A cc nL rt own) (K : LkV own idx y b n ret k) (q0 : Nat) {a ci : Nat} {f : Nat → AV} (hr : ws[q0]? = some (a, ob ci f)) (hcl : (vwCl[ci]?).map (fun r => r.1) = some y.cls) (hst : st = avs.reverse ++ rv a :: rest) (hk : avs.length = k) (h8 : rest.length ≤ 8) (hR : d + 1 ≤ R.frames ∧ 8 + (n + 11) + 40 * d ≤ R.locals) (hcs : cells + mc ≤ R.cells ∧ slots + ms ≤ R.slots) (hdg : decode cc pc = .ok (.invokevirtual idx, 3)) (hn : va_nd is = true) (hC : is.map (fun i => ws[i]?) = wc.map some) :
    Runs p l e R s m args below meth c D G A nL cells slots pc L st ws y b n ret d mc ms (rv a :: avs) wc rest := by
  intro H locs ls hP hD hS hl Qc free hM
  obtain ⟨⟨k1, k2, k3, k4, k5⟩, k6⟩ := K
  cases hq : vwCl[ci]? with
  | none => rw [hq] at hcl; cases hcl
  | some r =>
    rw [hq] at hcl
    have hr1 : r.1 = y.cls := Option.some.inj hcl
    have hrecv := va_recv X.2.2.2.2.2.1 hP hq (tW_at hr)
    rw [hr1] at hrecv
    exact va_runV (C := y.cls) (n := k) (cx_fix X) hM (cwV k X.2.2.2.2.1 (uw_goods (fun w hw => by
        rcases List.mem_append.mp hw with h | h
        · simp only [List.mem_cons, List.not_mem_nil, or_false] at h
          rcases h with rfl | rfl | rfl | rfl <;> assumption
        · exact (uw_cons k5 w h).1)) rfl rfl rfl ⟨rfl, k6⟩ hR) ⟨pcA_blind, hrecv, fun U hU hW => pcA_ok X hP hD hS hn hC U hU hW⟩ rfl (by rw [List.length_map]; exact hk) hl.1 (stk_V hst) (room8 h8) hdg hcs
theorem run_U {C owner : String} {x : MethodName} (X : Cx p s m args meth c D G A cc nL rt own) (K : LkU own idx C owner x y b n ret k) (q0 : Nat) {a ci : Nat} {f : Nat → AV} (hr : ws[q0]? = some (a, ob ci f)) (hcl : (vwCl[ci]?).map (fun r => r.1) = some C) (hst : st = avs.reverse ++ rv a :: rest) (hk : avs.length = k) (h8 : rest.length ≤ 8) (hR : d + 1 ≤ R.frames ∧ 8 + (n + 11) + 40 * d ≤ R.locals) (hcs : cells + mc ≤ R.cells ∧ slots + ms ≤ R.slots) (hdg : decode cc pc = .ok (.invokevirtual idx, 3)) (hn : va_nd is = true) (hC : is.map (fun i => ws[i]?) = wc.map some) :
    Runs p l e R s m args below meth c D G A nL cells slots pc L st ws y b n ret d mc ms (rv a :: avs) wc rest := by
  intro H locs ls hP hD hS hl Qc free hM
  obtain ⟨⟨k1, k2, k3, k4, k5, k5b⟩, k6, k7⟩ := K
  cases hq : vwCl[ci]? with
  | none => rw [hq] at hcl; cases hcl
  | some r =>
    rw [hq] at hcl
    have hr1 : r.1 = C := Option.some.inj hcl
    have hrecv := va_recv X.2.2.2.2.2.1 hP hq (tW_at hr)
    rw [hr1] at hrecv
    exact va_runU (n := k) (cx_fix X) hM (va_cwU k X.2.2.2.2.1 (uw_goods (fun w hw => by
        rcases List.mem_append.mp hw with h | h
        · simp only [List.mem_cons, List.not_mem_nil, or_false] at h
          rcases h with rfl | rfl | rfl | rfl | rfl <;> assumption
        · exact (uw_cons k5b w h).1)) rfl rfl rfl k6 k7 hR) ⟨pcA_blind, hrecv, fun U hU hW => pcA_ok X hP hD hS hn hC U hU hW⟩ rfl (by rw [List.length_map]; exact hk) hl.1 (stk_V hst) (room8 h8) hdg hcs
theorem run_A {C owner : String} {x : MethodName} (X : Cx p s m args meth c D G A cc nL rt own) (K : LkA own idx C owner x y b n ret k) (q0 : Nat) {a ci : Nat} {f : Nat → AV} (hr : ws[q0]? = some (a, ob ci f)) (hcl : (vwCl[ci]?).map (fun r => r.1) = some C) (hst : st = avs.reverse ++ rv a :: rest) (hk : avs.length = k) (h8 : rest.length ≤ 8) (hR : d + 1 ≤ R.frames ∧ 8 + (n + 11) + 40 * d ≤ R.locals) (hcs : cells + mc ≤ R.cells ∧ slots + ms ≤ R.slots) (hdg : decode cc pc = .ok (.invokevirtual idx, 3)) (hn : va_nd is = true) (hC : is.map (fun i => ws[i]?) = wc.map some) :
    Runs p l e R s m args below meth c D G A nL cells slots pc L st ws y b n ret d mc ms (rv a :: avs) wc rest := by
  intro H locs ls hP hD hS hl Qc free hM
  obtain ⟨⟨k1, k2, k3, k4, k5, k5b⟩, k6, k7⟩ := K
  cases hq : vwCl[ci]? with
  | none => rw [hq] at hcl; cases hcl
  | some r =>
    rw [hq] at hcl
    have hr1 : r.1 = C := Option.some.inj hcl
    have hrecv := va_recv X.2.2.2.2.2.1 hP hq (tW_at hr)
    rw [hr1] at hrecv
    exact va_runU (n := k) (cx_fix X) hM (va_cwA k X.2.2.2.2.1 (uw_goods (fun w hw => by
        rcases List.mem_append.mp hw with h | h
        · simp only [List.mem_cons, List.not_mem_nil, or_false] at h
          rcases h with rfl | rfl | rfl | rfl | rfl <;> assumption
        · exact (uw_cons k5b w h).1)) rfl rfl rfl (X.2.2.2.2.2.2.2.1.1 _ k6) k7 hR) ⟨pcA_blind, hrecv, fun U hU hW => pcA_ok X hP hD hS hn hC U hU hW⟩ rfl (by rw [List.length_map]; exact hk) hl.1 (stk_V hst) (room8 h8) hdg hcs
theorem run_S (X : Cx p s m args meth c D G A cc nL rt own) (K : LkS own idx y b n ret k) (hst : st = avs.reverse ++ rest) (hk : avs.length = k) (h8 : rest.length ≤ 8) (hR : d + 1 ≤ R.frames ∧ 8 + (n + 11) + 40 * d ≤ R.locals) (hcs : cells + mc ≤ R.cells ∧ slots + ms ≤ R.slots) (hdg : decode cc pc = .ok (.invokestatic idx, 3)) (hn : va_nd is = true) (hC : is.map (fun i => ws[i]?) = wc.map some) :
    Runs p l e R s m args below meth c D G A nL cells slots pc L st ws y b n ret d mc ms avs wc rest := by
  intro H locs ls hP hD hS hl Qc free hM
  obtain ⟨⟨k1, k2, k3, k5⟩, k6⟩ := K
  exact va_runS (n := k) (cx_fix X) hM (va_cwS k X.2.2.2.2.1 (uw_goods (fun w hw => by
        rcases List.mem_append.mp hw with h | h
        · simp only [List.mem_cons, List.not_mem_nil, or_false] at h
          rcases h with rfl | rfl | rfl <;> assumption
        · exact (uw_cons k5 w h).1)) rfl rfl rfl k6 hR) ⟨pcA_blind, fun U hU hW => pcA_ok X hP hD hS hn hC U hU hW⟩ rfl (by rw [List.length_map]; exact hk) hl.1 (stk_S hst) (room8 h8) hdg hcs
theorem run_SN {host : String} (X : Cx p s m args meth c D G A cc nL rt own) (K : LkSN own idx host y b n ret k) (hst : st = avs.reverse ++ rest) (hk : avs.length = k) (h8 : rest.length ≤ 8) (hR : d + 1 ≤ R.frames ∧ 8 + (n + 11) + 40 * d ≤ R.locals) (hcs : cells + mc ≤ R.cells ∧ slots + ms ≤ R.slots) (hdg : decode cc pc = .ok (.invokestatic idx, 3)) (hn : va_nd is = true) (hC : is.map (fun i => ws[i]?) = wc.map some) :
    Runs p l e R s m args below meth c D G A nL cells slots pc L st ws y b n ret d mc ms avs wc rest := by
  intro H locs ls hP hD hS hl Qc free hM
  obtain ⟨⟨k1, k2, k3, k5⟩, k6⟩ := K
  exact va_runSN (n := k) (cx_fix X) hM ⟨va_cnB k X.2.2.2.2.1 (uw_cons k5) rfl rfl rfl (X.2.2.2.2.2.2.2.1.1 _ k1) (X.2.2.2.2.1 _ k3) k6 hR, X.2.2.2.2.1 _ k2, trivial⟩ ⟨pcA_blind, fun U hU hW => pcA_ok X hP hD hS hn hC U hU hW⟩ rfl (by rw [List.length_map]; exact hk) hl.1 (stk_S hst) (room8 h8) hdg hcs
theorem run_I (X : Cx p s m args meth c D G A cc nL rt own) (K : LkI own idx y b n k) {a : Nat} (hst : st = avs.reverse ++ rv a :: rest) (hk : avs.length = k) (h8 : rest.length ≤ 8) (hR : d + 1 ≤ R.frames ∧ 8 + (n + 11) + 40 * d ≤ R.locals) (hcs : cells + mc ≤ R.cells ∧ slots + ms ≤ R.slots) (hdg : decode cc pc = .ok (.invokespecial idx, 3)) (hn : va_nd is = true) (hC : is.map (fun i => ws[i]?) = wc.map some) :
    Runs p l e R s m args below meth c D G A nL cells slots pc L st ws y b n none d mc ms (rv a :: avs) wc rest := by
  intro H locs ls hP hD hS hl Qc free hM
  obtain ⟨⟨k1, k2, k3, k5⟩, k6, k7⟩ := K
  exact va_runI (n := k) (cx_fix X) hM (cwI k X.2.2.2.2.1 (uw_cons k5) rfl rfl rfl (X.2.2.2.2.1 _ k3) (X.2.2.2.2.1 _ k1) (X.2.2.2.2.1 _ k2) k7 k6 hR) ⟨pcA_blind, fun U hU hW => pcA_ok (av := rv a :: avs) X hP hD hS hn hC U hU hW⟩ rfl (by rw [List.length_map]; exact hk) hl.1 (stk_V hst) (room8 h8) hdg hcs
theorem run_IN {host : String} (X : Cx p s m args meth c D G A cc nL rt own) (K : LkIN own idx host y b n k) {a : Nat} (hst : st = avs.reverse ++ rv a :: rest) (hk : avs.length = k) (h8 : rest.length ≤ 8) (hR : d + 1 ≤ R.frames ∧ 8 + (n + 11) + 40 * d ≤ R.locals) (hcs : cells + mc ≤ R.cells ∧ slots + ms ≤ R.slots) (hdg : decode cc pc = .ok (.invokespecial idx, 3)) (hn : va_nd is = true) (hC : is.map (fun i => ws[i]?) = wc.map some) :
    Runs p l e R s m args below meth c D G A nL cells slots pc L st ws y b n none d mc ms (rv a :: avs) wc rest := by
  intro H locs ls hP hD hS hl Qc free hM
  obtain ⟨⟨k1, k2, k3, k5⟩, k6, k7⟩ := K
  exact va_runIN (n := k) (cx_fix X) hM ⟨va_cnB k X.2.2.2.2.1 (uw_cons k5) rfl rfl rfl (X.2.2.2.2.2.2.2.1.1 _ k1) (X.2.2.2.2.1 _ k3) k6 hR, k7, X.2.2.2.2.1 _ k2⟩ ⟨pcA_blind, fun U hU hW => pcA_ok (av := rv a :: avs) X hP hD hS hn hC U hU hW⟩ rfl (by rw [List.length_map]; exact hk) hl.1 (stk_V hst) (room8 h8) hdg hcs
-- behind a call that makes nothing: the callee's cells in their places
theorem S_calli {ret1 : FieldType} {Post : Int → EW → Prop} (X : Cx p s m args meth c D G A cc nL rt own) (hM : AMi l y b n ret1 d mc ms av wc Post) (hC : is.map (fun i => ws[i]?) = wc.map some) (hr : Runs p l e R s m args below meth c D G A nL cells slots pc L st ws y b n (some ret1) d mc ms av wc rest) (kk : ∀ (z : Int) (u : EW), Post z u → ∃ _ : u.map (fun q => q.1) = wc.map (fun q => q.1), S_ p l e R s m args below meth c Q D G A nL (cells + mc) (slots + ms) (pc + 3) L (iv z :: rest) (putC ws is u)) : S_ p l e R s m args below meth c Q D G A nL cells slots pc L st ws := by
  intro H locs ls hP hD hS hl
  have hF := va_free (wc := tW G wc) hD hS X.2.2.2.2.2.2.1 is (cut_tW hC)
  refine va_calli (hr H locs ls hP hD hS hl _ _ (hM D G H.size)) hS (fun q _ h => hF q h) hF (fun r u t H1 locs1 ht hvm hw hB hz1 hk1 hS1 => ?_)
  obtain ⟨z, rfl, hp⟩ := hw
  obtain ⟨hu, k2⟩ := kk z u hp
  obtain ⟨hP1, hK1, hD1⟩ := hB
  rw [ht] at hP1
  obtain ⟨hP2, hD2⟩ := va_putC hP hD hC hu hk1 hP1
  exact k2 H1 locs1 ls hP2 hD2 hS1 hl
theorem S_callv {Post : EW → Prop} (X : Cx p s m args meth c D G A cc nL rt own) (hM : AMv l y b n d mc ms av wc Post) (hC : is.map (fun i => ws[i]?) = wc.map some) (hr : Runs p l e R s m args below meth c D G A nL cells slots pc L st ws y b n none d mc ms av wc rest) (kk : ∀ (u : EW), Post u → ∃ _ : u.map (fun q => q.1) = wc.map (fun q => q.1), S_ p l e R s m args below meth c Q D G A nL (cells + mc) (slots + ms) (pc + 3) L rest (putC ws is u)) : S_ p l e R s m args below meth c Q D G A nL cells slots pc L st ws := by
  intro H locs ls hP hD hS hl
  have hF := va_free (wc := tW G wc) hD hS X.2.2.2.2.2.2.1 is (cut_tW hC)
  refine va_callv (hr H locs ls hP hD hS hl _ _ (hM D G H.size)) hS (fun q _ h => hF q h) hF (fun u t H1 locs1 ht hvm hp hB hz1 hk1 hS1 => ?_)
  obtain ⟨hu, k2⟩ := kk u hp
  obtain ⟨hP1, hK1, hD1⟩ := hB
  rw [ht] at hP1
  obtain ⟨hP2, hD2⟩ := va_putC hP hD hC hu hk1 hP1
  exact k2 H1 locs1 ls hP2 hD2 hS1 hl
-- behind a call that makes cells: the rest, then the callee's
theorem S_callvA {Post : EW → Prop} {wr : EW} (isR : List Nat) (X : Cx p s m args meth c D G A cc nL rt own) (hM : AMv l y b n d mc ms av wc Post) (hC : is.map (fun i => ws[i]?) = wc.map some) (hR : isR.map (fun i => ws[i]?) = wr.map some) (hnd : va_nd isR = true) (hdis : ∀ i ∈ isR, i ∉ is) (hr : Runs p l e R s m args below meth c D G A nL cells slots pc L st ws y b n none d mc ms av wc rest) (kk : ∀ (u : EW), Post u → S_ p l e R s m args below meth c Q D G A nL (cells + mc) (slots + ms) (pc + 3) L rest (wr ++ u)) : S_ p l e R s m args below meth c Q D G A nL cells slots pc L st ws := by
  intro H locs ls hP hD hS hl
  have hF := va_free (wc := tW G wc) hD hS X.2.2.2.2.2.2.1 is (cut_tW hC)
  refine va_callv (hr H locs ls hP hD hS hl _ _ (hM D G H.size)) hS (fun q _ h => hF q h) hF (fun u t H1 locs1 ht hvm hp hB hz1 hk1 hS1 => ?_)
  obtain ⟨hP1, hK1, hD1⟩ := hB
  rw [ht] at hP1
  obtain ⟨hP2, hD2⟩ := va_join hP hD is isR (cut_tW hC) (cut_tW hR) hnd hdis hk1 hF hP1 hD1
  have e : tW G wr ++ tW G u = tW G (wr ++ u) := by unfold tW; rw [List.map_append]
  rw [e] at hP2 hD2
  exact kk u hp H1 locs1 ls hP2 hD2 hS1 hl
theorem S_callrA {ret1 : FieldType} {Post : Nat → EW → Prop} {wr : EW} (isR : List Nat) (X : Cx p s m args meth c D G A cc nL rt own) (hM : AMr l y b n ret1 d mc ms av wc Post) (hC : is.map (fun i => ws[i]?) = wc.map some) (hR : isR.map (fun i => ws[i]?) = wr.map some) (hnd : va_nd isR = true) (hdis : ∀ i ∈ isR, i ∉ is) (hr : Runs p l e R s m args below meth c D G A nL cells slots pc L st ws y b n (some ret1) d mc ms av wc rest) (kk : ∀ (a : Nat) (u : EW), Post a u → S_ p l e R s m args below meth c Q D G A nL (cells + mc) (slots + ms) (pc + 3) L (rv a :: rest) (wr ++ u)) : S_ p l e R s m args below meth c Q D G A nL cells slots pc L st ws := by
  intro H locs ls hP hD hS hl
  have hF := va_free (wc := tW G wc) hD hS X.2.2.2.2.2.2.1 is (cut_tW hC)
  refine va_callr (hr H locs ls hP hD hS hl _ _ (hM D G H.size)) hS (fun q _ h => hF q h) hF (fun u a t H1 locs1 ht hvm _ hB hz1 hk1 hS1 => ?_)
  obtain ⟨hp, hP1, hK1, hD1⟩ := hB
  rw [ht] at hP1
  obtain ⟨hP2, hD2⟩ := va_join hP hD is isR (cut_tW hC) (cut_tW hR) hnd hdis hk1 hF hP1 hD1
  have e : tW G wr ++ tW G u = tW G (wr ++ u) := by unfold tW; rw [List.map_append]
  rw [e] at hP2 hD2
  exact kk a u hp H1 locs1 ls hP2 hD2 hS1 hl
theorem S_calliA {ret1 : FieldType} {Post : Int → EW → Prop} {wr : EW} (isR : List Nat) (X : Cx p s m args meth c D G A cc nL rt own) (hM : AMi l y b n ret1 d mc ms av wc Post) (hC : is.map (fun i => ws[i]?) = wc.map some) (hR : isR.map (fun i => ws[i]?) = wr.map some) (hnd : va_nd isR = true) (hdis : ∀ i ∈ isR, i ∉ is) (hr : Runs p l e R s m args below meth c D G A nL cells slots pc L st ws y b n (some ret1) d mc ms av wc rest) (kk : ∀ (z : Int) (u : EW), Post z u → S_ p l e R s m args below meth c Q D G A nL (cells + mc) (slots + ms) (pc + 3) L (iv z :: rest) (wr ++ u)) : S_ p l e R s m args below meth c Q D G A nL cells slots pc L st ws := by
  intro H locs ls hP hD hS hl
  have hF := va_free (wc := tW G wc) hD hS X.2.2.2.2.2.2.1 is (cut_tW hC)
  refine va_calli (hr H locs ls hP hD hS hl _ _ (hM D G H.size)) hS (fun q _ h => hF q h) hF (fun r u t H1 locs1 ht hvm hw hB hz1 hk1 hS1 => ?_)
  obtain ⟨z, rfl, hp⟩ := hw
  obtain ⟨hP1, hK1, hD1⟩ := hB
  rw [ht] at hP1
  obtain ⟨hP2, hD2⟩ := va_join hP hD is isR (cut_tW hC) (cut_tW hR) hnd hdis hk1 hF hP1 hD1
  have e : tW G wr ++ tW G u = tW G (wr ++ u) := by unfold tW; rw [List.map_append]
  rw [e] at hP2 hD2
  exact kk z u hp H1 locs1 ls hP2 hD2 hS1 hl
end SC
