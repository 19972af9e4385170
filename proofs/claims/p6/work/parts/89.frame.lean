/-! THE FRAME: a contract over some cells is one over more; a world is known by its table form; a call on the left of a world, on its middle -/
theorem Ev.narrow {A B : Nat → Prop} {U : State} {H : Heap} (h : Ev A U H) (hAB : ∀ q, B q → A q) : Ev B U H := by
  obtain ⟨h1, tL, tM, h2, h3, h4, h5⟩ := h
  exact ⟨h1, tL, tM, h2.narrow hAB, h3.narrow hAB, h4.narrow hAB, h5.narrow hAB⟩
theorem va_A_sub {G : GG} {ws wc : EW} {is : List Nat} {sz : Nat} (hC : is.map (fun i => ws[i]?) = wc.map some) : ∀ q, va_A (tW G wc) sz q → va_A (tW G ws) sz q := by
  intro q h
  rcases h with ⟨k, e, h⟩ | h
  · obtain ⟨i, -, h2⟩ := cut_at (cut_tW (G := G) hC) h
    exact Or.inl ⟨i, e, h2⟩
  · exact Or.inr h
theorem BW.of {D : va_G} {G : GG} {A : Nat → Prop} {w1 w2 : EW} {t : State} (h : tW G w1 = tW G w2) (k : BW D G A w1 t) : BW D G A w2 t := by
  unfold BW at *
  rw [← h]
  exact k
theorem BW.perm {D : va_G} {G : GG} {A : Nat → Prop} {ws ws2 : EW} {t : State} (h : ws.Perm ws2) (k : BW D G A ws t) : BW D G A ws2 t := by
  obtain ⟨hP, hK, hD⟩ := k
  have hm : (tW G ws).Perm (tW G ws2) := h.map _
  refine ⟨fun i q hq => ?_, hK, fun i j x z hi hj hxz => ?_, fun i q hq => ?_⟩
  · obtain ⟨j, hj⟩ := List.getElem?_of_mem (hm.mem_iff.mpr (List.mem_of_getElem? hq))
    exact hP j q hj
  · have nd : ((tW G ws).map (fun q => q.1)).Nodup := by
      rw [List.nodup_iff_pairwise_ne, List.pairwise_iff_getElem]
      intro a b2 ha hb hab he
      rw [List.length_map] at ha hb
      rw [List.getElem_map, List.getElem_map] at he
      have := hD.1 a b2 _ _ (List.getElem?_eq_getElem ha) (List.getElem?_eq_getElem hb) he
      omega
    have nd2 : ((tW G ws2).map (fun q => q.1)).Nodup := ((hm.map (fun q => q.1)).nodup_iff).mp nd
    have hi2 : ((tW G ws2).map (fun q => q.1))[i]? = some x.1 := by rw [List.getElem?_map, hi]; rfl
    have hj2 : ((tW G ws2).map (fun q => q.1))[j]? = some z.1 := by rw [List.getElem?_map, hj]; rfl
    exact (List.getElem?_inj (List.getElem?_eq_some_iff.mp hi2).1 nd2).mp (by rw [hi2, hj2, hxz])
  · obtain ⟨j, hj⟩ := List.getElem?_of_mem (hm.mem_iff.mpr (List.mem_of_getElem? hq))
    exact hD.2 j q hj
theorem perm_idx {ws : EW} {is : List Nat} (h : is.Perm (List.range ws.length)) : ws.Perm (is.filterMap (fun i => ws[i]?)) := by
  have e : ∀ l : EW, (List.range l.length).filterMap (fun i => l[i]?) = l := by
    intro l
    induction l with
    | nil => rfl
    | cons x l ih =>
      rw [List.length_cons, List.range_succ_eq_map, List.filterMap_cons, List.filterMap_map]
      show x :: List.filterMap (fun i => l[i]?) (List.range l.length) = x :: l
      rw [ih]
  have h2 := h.filterMap (fun i => ws[i]?)
  rw [e ws] at h2
  exact h2.symm
section FR
variable {l : Launch} {y : MethodName} {b : ByteArray} {n d mc ms : Nat} {av : List AV} {ws wc : EW} {ret : FieldType} {Post Post2 : Int → EW → Prop} {is isR : List Nat}
theorem AMi.tw {w2 : EW} (hw : ∀ G, tW G ws = tW G w2) (h : AMi l y b n ret d mc ms av ws Post) : AMi l y b n ret d mc ms av w2 Post := by
  intro D G sz
  have h2 := h D G sz
  unfold PcA at h2 ⊢
  rw [hw G] at h2
  exact h2
theorem pcA_sub {D : va_G} {G : GG} {sz : Nat} {args : Array Value} {s : State} (hC : is.map (fun i => ws[i]?) = wc.map some) (hn : va_nd is = true) (h : PcA D G av ws sz args s) : PcA D G av wc sz args s := by
  obtain ⟨q0, q1, qP, qK, qD, qE⟩ := h
  refine ⟨q0, q1, ?_, qK, (qD.sub is hn (cut_tW hC)).weaken (fun _ _ _ _ => trivial), Ev.narrow qE (va_A_sub hC)⟩
  intro j q hj
  obtain ⟨i, -, h2⟩ := cut_at (cut_tW (G := G) hC) hj
  exact qP i q h2
/-- the callee's cells in their places -/
theorem AMi.fr (hM : AMi l y b n ret d mc ms av wc Post) (hC : is.map (fun i => ws[i]?) = wc.map some) (hn : va_nd is = true) (hp : ∀ z u, Post z u → u.map (fun q => q.1) = wc.map (fun q => q.1) ∧ ∃ w2, (∀ G, tW G (putC ws is u) = tW G w2) ∧ Post2 z w2) : AMi l y b n ret d mc ms av ws Post2 := by
  intro D G sz p e h1 h2 h3 s m args below h4 h5 h6 h7
  have hsz : s.heap.size = sz := h6.2.1
  have hsub := va_A_sub (G := G) (sz := sz) hC
  obtain ⟨k, o, a1, a2, a3, ⟨⟨a4, a5⟩, L, a6, a7⟩⟩ := hM D G sz p e h1 h2 h3 s m args below h4 h5 (pcA_sub hC hn h6) h7
  obtain ⟨r, u, b1, ⟨z, b2, b3⟩, b4⟩ := a4
  obtain ⟨c1, w2, c2, c3⟩ := hp z u b3
  obtain ⟨-, -, qP, qK, qD, qE⟩ := h6
  obtain ⟨hP1, hK1, hD1⟩ := b4
  have hD9 : va_D (va_A (tW G ws) sz) (tW G ws) := qD.self
  obtain ⟨hP2, hD2⟩ := va_putC qP hD9 hC c1 (fun q hq hq2 => a5.2 q hq (fun h => hq2 (by rw [hsz]; exact h))) hP1
  exact ⟨k, o, a1, a2, a3, ⟨⟨⟨r, w2, b1, ⟨z, b2, c3⟩, BW.of (c2 G) ⟨hP2, hK1, hD2⟩⟩, a5.1, fun q hq hq2 => a5.2 q hq (fun h => hq2 (hsub q h))⟩, L, a6, fun q hq => hsub q.base (a7 q hq)⟩⟩
/-- .. the rest, then the callee's -/
theorem AMi.frA {wr : EW} (hM : AMi l y b n ret d mc ms av wc Post) (hC : is.map (fun i => ws[i]?) = wc.map some) (hn : va_nd is = true) (hR : isR.map (fun i => ws[i]?) = wr.map some) (hnd : va_nd isR = true) (hdis : ∀ i ∈ isR, i ∉ is) (hp : ∀ z u, Post z u → ∃ w2, (∀ G, tW G (wr ++ u) = tW G w2) ∧ Post2 z w2) : AMi l y b n ret d mc ms av ws Post2 := by
  intro D G sz p e h1 h2 h3 s m args below h4 h5 h6 h7
  have hsz : s.heap.size = sz := h6.2.1
  have hsub := va_A_sub (G := G) (sz := sz) hC
  obtain ⟨k, o, a1, a2, a3, ⟨⟨a4, a5⟩, L, a6, a7⟩⟩ := hM D G sz p e h1 h2 h3 s m args below h4 h5 (pcA_sub hC hn h6) h7
  obtain ⟨r, u, b1, ⟨z, b2, b3⟩, b4⟩ := a4
  obtain ⟨w2, c2, c3⟩ := hp z u b3
  obtain ⟨-, -, qP, qK, qD, qE⟩ := h6
  obtain ⟨hP1, hK1, hD1⟩ := b4
  have hD9 : va_D (va_A (tW G ws) sz) (tW G ws) := qD.self
  subst hsz
  obtain ⟨hP2, hD2⟩ := va_join qP hD9 is isR (cut_tW hC) (cut_tW hR) hnd hdis a5.2 hsub hP1 hD1
  have e9 : tW G wr ++ tW G u = tW G (wr ++ u) := by unfold tW; rw [List.map_append]
  rw [e9] at hP2 hD2
  exact ⟨k, o, a1, a2, a3, ⟨⟨⟨r, w2, b1, ⟨z, b2, c3⟩, BW.of (c2 G) ⟨hP2, hK1, hD2⟩⟩, a5.1, fun q hq hq2 => a5.2 q hq (fun h => hq2 (hsub q h))⟩, L, a6, fun q hq => hsub q.base (a7 q hq)⟩⟩
/-- with the callee's cells laid into their places first -/
theorem AMi.fw (hM : AMi l y b n ret d mc ms av wc Post) (hw : ∀ G, tW G (putC ws is wc) = tW G ws) (hC : is.map (fun i => (putC ws is wc)[i]?) = wc.map some) (hn : va_nd is = true) (hp : ∀ z u, Post z u → u.map (fun q => q.1) = wc.map (fun q => q.1) ∧ ∃ w2, (∀ G, tW G (putC (putC ws is wc) is u) = tW G w2) ∧ Post2 z w2) : AMi l y b n ret d mc ms av ws Post2 :=
  AMi.tw hw (AMi.fr hM hC hn hp)
theorem tW_app {G : GG} {w1 w2 v1 v2 : EW} (h1 : tW G w1 = tW G w2) (h2 : tW G v1 = tW G v2) : tW G (w1 ++ v1) = tW G (w2 ++ v2) := by
  unfold tW at *
  rw [List.map_append, List.map_append, h1, h2]
/-- with a tail that the callee takes along -/
theorem AMi.fwT {wl wcl lt : EW} (hM : AMi l y b n ret d mc ms av (wcl ++ lt) Post) (hw : ∀ G, tW G (putC wl is wcl) = tW G wl) (hC : is.map (fun i => (putC wl is wcl)[i]?) = wcl.map some) (hn : va_nd is = true) (hp : ∀ z u, Post z u → ∃ ul lt2, u = ul ++ lt2 ∧ ul.map (fun q => q.1) = wcl.map (fun q => q.1) ∧ lt2.map (fun q => q.1) = lt.map (fun q => q.1) ∧ ∃ w2, (∀ G, tW G (putC (putC wl is wcl) is ul ++ lt2) = tW G w2) ∧ Post2 z w2) : AMi l y b n ret d mc ms av (wl ++ lt) Post2 := by
  refine AMi.tw (ws := putC wl is wcl ++ lt) (fun G => tW_app (hw G) rfl) (AMi.fr (is := isT is (putC wl is wcl).length lt.length) hM (isT_map hC) (isT_nd hn (is_lt (β := Nat) hC)) (fun z u h => ?_))
  obtain ⟨ul, lt2, rfl, h1, h2, w2, h3, h4⟩ := hp z u h
  refine ⟨by rw [List.map_append, List.map_append, h1, h2], w2, ?_, h4⟩
  rw [putC_T ((map_len h1).trans (map_some_len hC).symm) (is_lt (β := Nat) hC) (map_len h2)]
  exact h3
/-- .. and makes cells -/
theorem AMi.fwAT {wl wcl lt wr : EW} (hM : AMi l y b n ret d mc ms av (wcl ++ lt) Post) (hw : ∀ G, tW G (wr ++ wcl) = tW G wl) (hp : ∀ z u, Post z u → ∃ w2, (∀ G, tW G (wr ++ u) = tW G w2) ∧ Post2 z w2) : AMi l y b n ret d mc ms av (wl ++ lt) Post2 := by
  refine AMi.tw (ws := wr ++ (wcl ++ lt)) (fun G => by rw [← List.append_assoc]; exact tW_app (hw G) rfl) (AMi.frA (wr := wr) (is := (List.range (wcl ++ lt).length).map (fun j => j + wr.length)) (isR := List.range wr.length) hM ?_ ?_ ?_ ?_ ?_ hp)
  · apply List.ext_getElem?
    intro j
    rw [List.getElem?_map, List.getElem?_map, List.getElem?_map]
    by_cases hj : j < (wcl ++ lt).length
    · rw [List.getElem?_range hj]
      show some ((wr ++ (wcl ++ lt))[j + wr.length]?) = _
      rw [List.getElem?_append_right (by omega), Nat.add_sub_cancel, List.getElem?_eq_getElem hj]
      rfl
    · rw [List.getElem?_eq_none (by rw [List.length_range]; omega), List.getElem?_eq_none (by omega)]
      rfl
  · rw [va_nd_iff, List.nodup_iff_pairwise_ne, List.pairwise_map]
    exact List.Pairwise.imp (fun h => by omega) List.pairwise_lt_range
  · apply List.ext_getElem?
    intro j
    rw [List.getElem?_map, List.getElem?_map]
    by_cases hj : j < wr.length
    · rw [List.getElem?_range hj]
      show some ((wr ++ (wcl ++ lt))[j]?) = _
      rw [List.getElem?_append_left hj, List.getElem?_eq_getElem hj]
      rfl
    · rw [List.getElem?_eq_none (by rw [List.length_range]; omega), List.getElem?_eq_none (by omega)]
      rfl
  · rw [va_nd_iff, List.nodup_iff_pairwise_ne]
    exact List.Pairwise.imp (fun h => by omega) List.pairwise_lt_range
  · intro i hi hm
    obtain ⟨j, -, hj⟩ := List.mem_map.mp hm
    have := List.mem_range.mp hi
    omega
/-- .. in forms where the worlds are the same cells -/
theorem AMi.frE (hM : AMi l y b n ret d mc ms av wc Post) (hC : is.map (fun i => ws[i]?) = wc.map some) (hn : va_nd is = true) (hp : ∀ z u, Post z u → u.map (fun q => q.1) = wc.map (fun q => q.1) ∧ ∃ w2, putC ws is u = w2 ∧ Post2 z w2) : AMi l y b n ret d mc ms av ws Post2 :=
  AMi.fr hM hC hn (fun z u h => by obtain ⟨h1, w2, h2, h3⟩ := hp z u h; exact ⟨h1, w2, fun G => by rw [h2], h3⟩)
theorem AMi.frT {wl wcl lt : EW} (hM : AMi l y b n ret d mc ms av (wcl ++ lt) Post) (hC : is.map (fun i => wl[i]?) = wcl.map some) (hn : va_nd is = true) (hp : ∀ z u, Post z u → ∃ ul lt2, u = ul ++ lt2 ∧ ul.map (fun q => q.1) = wcl.map (fun q => q.1) ∧ lt2.map (fun q => q.1) = lt.map (fun q => q.1) ∧ ∃ w2, putC wl is ul ++ lt2 = w2 ∧ Post2 z w2) : AMi l y b n ret d mc ms av (wl ++ lt) Post2 := by
  refine AMi.fr (is := isT is wl.length lt.length) hM (isT_map hC) (isT_nd hn (is_lt (β := Nat) hC)) (fun z u h => ?_)
  obtain ⟨ul, lt2, rfl, h1, h2, w2, h3, h4⟩ := hp z u h
  refine ⟨by rw [List.map_append, List.map_append, h1, h2], w2, fun G => ?_, h4⟩
  rw [putC_T ((map_len h1).trans (map_some_len hC).symm) (is_lt (β := Nat) hC) (map_len h2), h3]
theorem AMi.frAT {wl wcl lt wr : EW} (hM : AMi l y b n ret d mc ms av (wcl ++ lt) Post) (hw : wr ++ wcl = wl) (hp : ∀ z u, Post z u → ∃ w2, wr ++ u = w2 ∧ Post2 z w2) : AMi l y b n ret d mc ms av (wl ++ lt) Post2 :=
  AMi.fwAT hM (fun G => by rw [hw]) (fun z u h => by obtain ⟨w2, h2, h3⟩ := hp z u h; exact ⟨w2, fun G => by rw [h2], h3⟩)
theorem AMi.frL {wl lt : EW} (hM : AMi l y b n ret d mc ms av wc Post) (hC : is.map (fun i => wl[i]?) = wc.map some) (hn : va_nd is = true) (hp : ∀ z u, Post z u → u.map (fun q => q.1) = wc.map (fun q => q.1) ∧ ∃ w2, putC wl is u = w2 ∧ Post2 z (w2 ++ lt)) : AMi l y b n ret d mc ms av (wl ++ lt) Post2 :=
  AMi.fr hM (app_left hC) hn (fun z u h => by
    obtain ⟨h1, w2, h2, h3⟩ := hp z u h
    exact ⟨h1, w2 ++ lt, fun G => by rw [putC_left is wl lt u ((map_len h1).trans (map_some_len hC).symm) (is_lt (β := Nat) hC), h2], h3⟩)
end FR
theorem putC_is {wl w2 u : EW} {is isR : List Nat} {N : Nat} (hN : wl.length = N) (hl : w2.length = N) (h1 : is.map (fun i => w2[i]?) = u.map some) (h2 : isR.map (fun i => w2[i]?) = isR.map (fun i => wl[i]?)) (hc : ∀ i, i < N → i ∈ is ∨ i ∈ isR) : putC wl is u = w2 := by
  have hu : u.length = is.length := (map_some_len h1).symm
  apply List.ext_getElem?
  intro k
  by_cases hk : k < N
  · have hk2 : k < (putC wl is u).length := by rw [putC_len is wl u hu, hN]; exact hk
    have hq := List.getElem?_eq_getElem hk2
    rw [hq]
    rcases putC_at is u wl hu k _ hq with ⟨j, a1, a2⟩ | ⟨a1, a2⟩
    · have e1 : (is.map (fun i => w2[i]?))[j]? = some (w2[k]?) := by rw [List.getElem?_map, a1]; rfl
      rw [h1, List.getElem?_map, a2] at e1
      exact Option.some.inj e1
    · have hm := (hc k hk).resolve_left a1
      obtain ⟨j, hj⟩ := List.getElem?_of_mem hm
      have e1 : (isR.map (fun i => w2[i]?))[j]? = some (w2[k]?) := by rw [List.getElem?_map, hj]; rfl
      have e2 : (isR.map (fun i => wl[i]?))[j]? = some (wl[k]?) := by rw [List.getElem?_map, hj]; rfl
      rw [h2, e2] at e1
      rw [← a2]
      exact Option.some.inj e1
  · rw [List.getElem?_eq_none (by rw [putC_len is wl u hu]; omega), List.getElem?_eq_none (by omega)]
section FR2
variable {l : Launch} {y : MethodName} {b : ByteArray} {n d mc ms : Nat} {av : List AV} {wl wc lt : EW} {ret : FieldType} {Post Post2 : Int → EW → Prop} {is : List Nat}
/-- the callee's cells in their places, the others as they were, a tail untouched -/
theorem AMi.gL (isR : List Nat) (N : Nat) (hM : AMi l y b n ret d mc ms av wc Post) (hN : wl.length = N) (hC : is.map (fun i => wl[i]?) = wc.map some) (hn : va_nd is = true) (hc : ∀ i, i < N → i ∈ is ∨ i ∈ isR) (hp : ∀ z u, Post z u → u.map (fun q => q.1) = wc.map (fun q => q.1) ∧ ∃ w2, w2.length = N ∧ is.map (fun i => w2[i]?) = u.map some ∧ isR.map (fun i => w2[i]?) = isR.map (fun i => wl[i]?) ∧ Post2 z (w2 ++ lt)) : AMi l y b n ret d mc ms av (wl ++ lt) Post2 :=
  AMi.frL hM hC hn (fun z u h => by
    obtain ⟨h1, w2, h2, h3, h4, h5⟩ := hp z u h
    exact ⟨h1, w2, putC_is hN h2 h3 h4 hc, h5⟩)
theorem AMi.gE (isR : List Nat) (N : Nat) (hM : AMi l y b n ret d mc ms av wc Post) (hN : wl.length = N) (hC : is.map (fun i => wl[i]?) = wc.map some) (hn : va_nd is = true) (hc : ∀ i, i < N → i ∈ is ∨ i ∈ isR) (hp : ∀ z u, Post z u → u.map (fun q => q.1) = wc.map (fun q => q.1) ∧ ∃ w2, w2.length = N ∧ is.map (fun i => w2[i]?) = u.map some ∧ isR.map (fun i => w2[i]?) = isR.map (fun i => wl[i]?) ∧ Post2 z w2) : AMi l y b n ret d mc ms av wl Post2 :=
  AMi.frE hM hC hn (fun z u h => by
    obtain ⟨h1, w2, h2, h3, h4, h5⟩ := hp z u h
    exact ⟨h1, w2, putC_is hN h2 h3 h4 hc, h5⟩)
theorem AMi.gT (isR : List Nat) (N : Nat) {wcl : EW} (hM : AMi l y b n ret d mc ms av (wcl ++ lt) Post) (hN : wl.length = N) (hC : is.map (fun i => wl[i]?) = wcl.map some) (hn : va_nd is = true) (hc : ∀ i, i < N → i ∈ is ∨ i ∈ isR) (hp : ∀ z u, Post z u → ∃ ul lt2, u = ul ++ lt2 ∧ ul.map (fun q => q.1) = wcl.map (fun q => q.1) ∧ lt2.map (fun q => q.1) = lt.map (fun q => q.1) ∧ ∃ w2, w2.length = N ∧ is.map (fun i => w2[i]?) = ul.map some ∧ isR.map (fun i => w2[i]?) = isR.map (fun i => wl[i]?) ∧ Post2 z (w2 ++ lt2)) : AMi l y b n ret d mc ms av (wl ++ lt) Post2 :=
  AMi.frT hM hC hn (fun z u h => by
    obtain ⟨ul, lt2, h1, h2, h3, w2, h4, h5, h6, h7⟩ := hp z u h
    exact ⟨ul, lt2, h1, h2, h3, w2 ++ lt2, by rw [putC_is hN h4 h5 h6 hc], h7⟩)
end FR2
theorem rg_L {wa wb : EW} : (List.range wa.length).map (fun i => (wa ++ wb)[i]?) = wa.map some := by
  apply List.ext_getElem?
  intro j
  rw [List.getElem?_map, List.getElem?_map]
  by_cases hj : j < wa.length
  · rw [List.getElem?_range hj]
    show some ((wa ++ wb)[j]?) = _
    rw [List.getElem?_append_left hj, List.getElem?_eq_getElem hj]
    rfl
  · rw [List.getElem?_eq_none (by rw [List.length_range]; omega), List.getElem?_eq_none (by omega)]
    rfl
theorem rg_nd (n : Nat) : va_nd (List.range n) = true := by
  rw [va_nd_iff, List.nodup_iff_pairwise_ne]
  exact List.Pairwise.imp (fun h => by omega) List.pairwise_lt_range
def rgM (k n : Nat) : List Nat := (List.range n).map (fun j => j + k)
theorem rg_M {wa wb wo : EW} : (rgM wa.length wb.length).map (fun i => (wa ++ (wb ++ wo))[i]?) = wb.map some := by
  unfold rgM
  apply List.ext_getElem?
  intro j
  rw [List.getElem?_map, List.getElem?_map, List.getElem?_map]
  by_cases hj : j < wb.length
  · rw [List.getElem?_range hj]
    show some ((wa ++ (wb ++ wo))[j + wa.length]?) = _
    rw [List.getElem?_append_right (by omega), Nat.add_sub_cancel, List.getElem?_append_left hj, List.getElem?_eq_getElem hj]
    rfl
  · rw [List.getElem?_eq_none (by rw [List.length_range]; omega), List.getElem?_eq_none (by omega)]
    rfl
theorem rgM_nd (k n : Nat) : va_nd (rgM k n) = true := by
  unfold rgM
  rw [va_nd_iff, List.nodup_iff_pairwise_ne, List.pairwise_map]
  exact List.Pairwise.imp (fun h => by omega) List.pairwise_lt_range
section SL
variable {p : Program} {l : Launch} {e : Env} {R : Room} {s : State} {m : MethodId} {args : Array Value} {below : List Frame} {meth : Method} {c : Code} {Q : State → Prop} {D : va_G} {G : GG} {A : Nat → Prop} {cc : ByteArray} {nL cells slots pc : Nat} {rt : Option FieldType} {own : String} {L : Nat → Option AV} {st : List AV}
variable {y : MethodName} {b : ByteArray} {n d mc ms : Nat} {av rest : List AV} {wa wb wo : EW} {ret1 : FieldType} {Post : Int → EW → Prop}
theorem S_tw {ws ws' : EW} (h : tW G ws = tW G ws') (k : S_ p l e R s m args below meth c Q D G A nL cells slots pc L st ws') : S_ p l e R s m args below meth c Q D G A nL cells slots pc L st ws := by
  unfold S_ at *
  rw [h]
  exact k
theorem S_callL (X : Cx p s m args meth c D G A cc nL rt own) (hM : AMi l y b n ret1 d mc ms av wa Post) (hr : Runs p l e R s m args below meth c D G A nL cells slots pc L st (wa ++ wb) y b n (some ret1) d mc ms av wa rest) (kk : ∀ (z : Int) (u : EW), Post z u → S_ p l e R s m args below meth c Q D G A nL (cells + mc) (slots + ms) (pc + 3) L (iv z :: rest) (u ++ wb)) : S_ p l e R s m args below meth c Q D G A nL cells slots pc L st (wa ++ wb) := by
  refine S_calliA (is := List.range wa.length) (wr := wb) (rgM wa.length wb.length) X hM rg_L ?_ (rgM_nd _ _) ?_ hr (fun z u h => S_perm List.perm_append_comm (kk z u h))
  · have h := rg_M (wa := wa) (wb := wb) (wo := [])
    rw [List.append_nil] at h
    exact h
  · intro i hi hm
    obtain ⟨j, -, hj⟩ := List.mem_map.mp hi
    have := List.mem_range.mp hm
    omega
theorem S_callM (X : Cx p s m args meth c D G A cc nL rt own) (hM : AMi l y b n ret1 d mc ms av wb Post) (hr : Runs p l e R s m args below meth c D G A nL cells slots pc L st (wa ++ (wb ++ wo)) y b n (some ret1) d mc ms av wb rest) (kk : ∀ (z : Int) (u : EW), Post z u → S_ p l e R s m args below meth c Q D G A nL (cells + mc) (slots + ms) (pc + 3) L (iv z :: rest) (wa ++ (u ++ wo))) : S_ p l e R s m args below meth c Q D G A nL cells slots pc L st (wa ++ (wb ++ wo)) := by
  refine S_calliA (is := rgM wa.length wb.length) (wr := wa ++ wo) (List.range wa.length ++ rgM (wa.length + wb.length) wo.length) X hM rg_M ?_ ?_ ?_ hr (fun z u h => S_perm ?_ (kk z u h))
  · rw [List.map_append, List.map_append]
    congr 1
    · exact rg_L
    · have h := rg_M (wa := wa ++ wb) (wb := wo) (wo := [])
      rw [List.append_nil, List.length_append, List.append_assoc] at h
      exact h
  · rw [va_nd_iff, List.nodup_append]
    refine ⟨(va_nd_iff _).mp (rg_nd _), (va_nd_iff _).mp (rgM_nd _ _), ?_⟩
    intro a ha b2 hb
    obtain ⟨j, -, hj⟩ := List.mem_map.mp hb
    have := List.mem_range.mp ha
    omega
  · intro i hi hm
    obtain ⟨j, hj1, hj⟩ := List.mem_map.mp hm
    have h1 := List.mem_range.mp hj1
    rcases List.mem_append.mp hi with h2 | h2
    · have := List.mem_range.mp h2
      omega
    · obtain ⟨j2, -, hj2⟩ := List.mem_map.mp h2
      omega
  · rw [List.append_assoc]
    exact (List.perm_append_comm).append_left wa
end SL
