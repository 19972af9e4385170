/-! THE CLAIM OUT OF ONE WALK OF THE LAW'S BODY. Your part is whole_start (and what it stands on); all else here is the same for every law, but numbers. -/
def R_law : String := "BorrowedBeatLaw"
def lw_P (b : Addr) (xs : List Int32) (args : Array Value) (s : State) : Prop := args = #[.ref b] ∧ s.IntsAt b xs ∧ xs.length ≤ 3072 ∧ (Jvm.Cond.and given_1 narrow_1).before args s = true
def lw_Q (_ : Array Value) (s : State) (o : Outcome) (t : State) : Prop := o = .returned (some (.int 1)) ∧ Framed s o t [] 601024 7293034
def lw_Z (below : List Frame) (a : Array Value) (s : State) : State → Prop := fun t => ∃ o, t.status = .running ∧ Ended t below o ∧ lw_Q a s o t
/-- the law's own end, with 1 on the stack, nothing written that was there before, its room as the claim has it -/
theorem lw_ret {p : Program} {l : Launch} {e : Env} {s : State} {m : MethodId} {below : List Frame} {meth : Method} {c : Code} {b : Nat} (hx : p.tables.exec = Jvm.exec) (hb : c.code = code) (hr : meth.sig.returnType = ret) (hlocks : meth.locks = false) {pc : Nat} {H : Heap} {ls : Array Slot} (hdg : decode code pc = .ok (.ireturn, 1)) : W p l e room_1 s m #[Value.ref b] below meth c H [] 601024 7293034 (lw_Z below #[Value.ref b] s) (F0 m pc ls [.int 1]) := by
  intro T hT X
  obtain ⟨fs, hret, hrun, hended, hW, hframe⟩ := X.leave (v := some (.int 1)) (hlocks := hlocks) (fun h => by rw [hr] at h; cases h)
  have hmeth' : T.vm.method? m = some meth := X.method'
  refine ⟨T.setFrames fs, ?_, .returned (some (.int 1)), hrun, hended, rfl, ⟨_, rfl⟩, hW, hframe⟩
  jvm_step X.here [X.here.top, hx, hb, hdg, hmeth', hr, ret, narrow_b1]
  (try refine ⟨rfl, ?_⟩); (try refine ⟨rfl, ?_⟩)
  first | (intro acts; rw [hret _ acts rfl rfl rfl]) | rw [hret _ _ rfl rfl rfl]
  exact Steps.refl _
/-- what holds at the law's entry: the machine, the code, the tables' words (any of lw_tbl by 'hts w (by decide +kernel)'), the script of L ints xs at the cell b, what the Statement gives of the start (any of its parts by flat_of_before) -/
def lw_At (p : Program) (s : State) (m : MethodId) (meth : Method) (c : Code) (b L : Nat) (xs : Nat → Int32) : Prop :=
  p.tables.exec = Jvm.exec ∧ c.code = code ∧ meth.sig.returnType = ret ∧ c.maxLocals = 7 ∧ s.vm.findClass R_law = some m.cls ∧ (∀ w ∈ lw_tbl, w.before #[Value.ref b] s = true) ∧ va_X b L xs s s.heap ∧ b < s.heap.size ∧ meth.locks = false ∧ (Jvm.Cond.and given_1 narrow_1).before #[Value.ref b] s = true

/-! THE LAW'S LOOP -/
def sc (xs : Nat → Int32) (i : Nat) (k : Int) : Int := (xs (6 * (i : Int) + k).toNat).toInt
theorem AMi.imp {l : Launch} {y : MethodName} {b : ByteArray} {n d mc ms : Nat} {ret : FieldType} {av : List AV} {ws : EW} {Post Post2 : Int → EW → Prop} (hM : AMi l y b n ret d mc ms av ws Post) (h : ∀ z u, Post z u → Post2 z u) : AMi l y b n ret d mc ms av ws Post2 := by
  intro D G sz p e h1 h2 h3 s m args below h4 h5 h6 h7
  obtain ⟨k, o, a1, a2, a3, ⟨⟨a4, a5⟩, L, a6, a7⟩⟩ := hM D G sz p e h1 h2 h3 s m args below h4 h5 h6 h7
  obtain ⟨r, u, b1, ⟨z, b2, b3⟩, b4⟩ := a4
  exact ⟨k, o, a1, a2, a3, ⟨⟨⟨r, u, b1, ⟨z, b2, h z u b3⟩, b4⟩, a5⟩, L, a6, a7⟩⟩
section WZ
variable {v : Nat → Int} {g : Nat → Int → Int} {ds : List LwS} {ys : Nat → LwY} {w : Nat → Int} {h : Nat → Int → Int}
theorem qW12_damp (l : Launch) (b : Nat → Nat) (y1 : Int) (r1 : inR y1) (hI : Inv v g ds ys w h) : AMi l yX12_damp cX12_damp 2 .int 6 0 0 [rv (b 0), iv y1] (RW b w h) (fun z u => (w 21 = 0 ∧ z = -1 ∧ u = RW b w h) ∨ (1 ≤ w 21 ∧ QX12_damp b w h ds y1 z u)) := by
  by_cases hp : w 21 = 0
  · refine (qZ12_damp l b w h y1 hp).imp (fun z u hq => ?_)
    exact Or.inl ⟨hp, hq.1, hq.2⟩
  · have hp2 := hI.rpl
    have hp3 := hI.pl
    have hp1 : 1 ≤ v 13 := by omega
    refine (qX12_damp l b w h ds y1 (hI.rpm hp1) hI.ho r1).imp (fun z u hq => ?_)
    exact Or.inr ⟨by omega, hq⟩
theorem qW12_day (l : Launch) (b : Nat → Nat) (y1 : Int) (r1 : inR y1) (hI : Inv v g ds ys w h) : AMi l yX12_day cX12_day 3 .int 6 0 0 [rv (b 0), iv y1] (RW b w h) (fun z u => QX12_day b w h ds y1 z u) := by
  by_cases hp : w 21 = 0
  · refine (qZ12_day l b w h y1 hp).imp (fun z u hq => ?_)
    exact Or.inl ⟨hq.1, hq.2, Or.inl hp⟩
  · have hp2 := hI.rpl
    have hp3 := hI.pl
    have hp1 : 1 ≤ v 13 := by omega
    refine (qX12_day l b w h ds y1 (hI.rpm hp1) hI.ho (hI.rdy hp1) hI.rB hI.rtd hI.rac r1).imp (fun z u hq => ?_)
    exact hq
theorem qW12_week (l : Launch) (b : Nat → Nat) (y1 : Int) (r1 : inR y1) (hI : Inv v g ds ys w h) : AMi l yX12_week cX12_week 3 .int 13 0 0 [rv (b 0), iv y1] (RW b w h) (fun z u => (w 21 = 0 ∧ z = -1 ∧ u = RW b w h) ∨ (1 ≤ w 21 ∧ QX12_week b w h ds y1 z u)) := by
  by_cases hp : w 21 = 0
  · refine (qZ12_week l b w h y1 hp).imp (fun z u hq => ?_)
    exact Or.inl ⟨hp, hq.1, hq.2⟩
  · have hp2 := hI.rpl
    have hp3 := hI.pl
    have hp1 : 1 ≤ v 13 := by omega
    refine (qX12_week l b w h ds y1 hI.rz r1 (hI.rpm hp1) hI.ho (hI.rdy hp1) hI.rtd).imp (fun z u hq => ?_)
    exact Or.inr ⟨by omega, hq⟩
theorem qW12_gift (l : Launch) (b : Nat → Nat) (y1 : Int) (r1 : inR y1) (hI : Inv v g ds ys w h) : AMi l yX12_gift cX12_gift 7 .int 6 0 0 [rv (b 0), iv y1] (RW b w h) (fun z u => (w 21 = 0 ∧ z = -1 ∧ u = RW b w h) ∨ (1 ≤ w 21 ∧ QX12_gift b w h ds y1 z u)) := by
  by_cases hp : w 21 = 0
  · refine (qZ12_gift l b w h y1 hp).imp (fun z u hq => ?_)
    exact Or.inl ⟨hp, hq.1, hq.2⟩
  · have hp2 := hI.rpl
    have hp3 := hI.pl
    have hp1 : 1 ≤ v 13 := by omega
    refine (qX12_gift l b w h ds y1 hI.rz r1 (hI.rpm hp1) hI.ho (hI.rdy hp1) hI.rtd).imp (fun z u hq => ?_)
    exact Or.inr ⟨by omega, hq⟩
theorem qW12_odds (l : Launch) (b : Nat → Nat) (y1 : Int) (y2 : Int) (r1 : inR y1) (r2 : inR y2) (hI : Inv v g ds ys w h) : AMi l yX12_odds cX12_odds 3 .int 14 0 0 [rv (b 0), iv y1, iv y2] (RW b w h) (fun z u => (w 21 = 0 ∧ z = -1 ∧ u = RW b w h) ∨ (1 ≤ w 21 ∧ QX12_odds b w h y1 y2 z u)) := by
  by_cases hp : w 21 = 0
  · refine (qZ12_odds l b w h y1 y2 hp r1).imp (fun z u hq => ?_)
    exact Or.inl ⟨hp, hq.1, hq.2⟩
  · have hp2 := hI.rpl
    have hp3 := hI.pl
    have hp1 : 1 ≤ v 13 := by omega
    refine (qX12_odds l b w h y1 y2 hI.rz r1 r2 (hI.rdy hp1)).imp (fun z u hq => ?_)
    exact Or.inr ⟨by omega, hq⟩
set_option maxRecDepth 100000 in
theorem qX12_thrown (l : Launch) (b : Nat → Nat) (w : Nat → Int) (h : Nat → Int → Int) : AMi l yX12_thrown cX12_thrown 1 .int 0 0 0 [rv (b 0)] (RW b w h) (fun z u => z = w 0 ∧ u = RW b w h) := by
  refine AMi.of rfl (nle rfl) ?_
  intro D G A p e s m args below meth c X
  refine S_aload_n X dX12_thrown_0 rfl rfl ?_
  refine S_get (v := iv (w 0)) X fgX12_101_11 0 rfl rfl dX12_thrown_1 ?_
  exact S_iret X (nle rfl) (nle rfl) dX12_thrown_4 ⟨rfl, rfl⟩
theorem pl_eq {v : Nat → Int} {g : Nat → Int → Int} {ds : List LwS} {ys : Nat → LwY} {w : Nat → Int} {h : Nat → Int → Int} {p k : Int} (hI : Inv v g ds ys w h) (hok : plOk v p k) : pl11 v g p k = plR (h 20) (h 23) (h 24) p k := by
  obtain ⟨-, -, ⟨-, -, -, -, -, -, -, s8⟩, ⟨-, w2⟩, -⟩ := hI
  obtain ⟨⟨a0, a1⟩, -⟩ := hok
  obtain ⟨x1, x2, x3, x4⟩ := s8 p a0 a1
  obtain ⟨y1, y2, y3⟩ := w2 p a0 a1
  have z1 : h 20 (5 * p + 0) = g 32 p := y1
  have z2 : h 20 (5 * p + 1) = g 33 p := y2
  have z3 : h 20 (5 * p + 2) = g 34 p := y3
  have z4 : h 20 (5 * p + 3) = g 39 p := x1
  have z5 : h 20 (5 * p + 4) = g 40 p := x2
  unfold pl11 plR
  rw [z1, z2, z3, z4, z5, x3, x4]
end WZ
section LW
variable {p : Program} {l : Launch} {e : Env} {s : State} {m : MethodId} {below : List Frame} {meth : Method} {c : Code} {D : va_G} {G : GG} {A : Nat → Prop} {bs N : Nat} {xs : Nat → Int32} {a b : Nat → Nat} {o : Nat} {cells slots pc i : Nat} {L : Nat → Option AV} {st : List AV} {ws : EW} {v : Nat → Int} {g : Nat → Int → Int} {R : Int → Int → Int} {ds : List LwS} {ys : Nat → LwY} {w : Nat → Int} {h : Nat → Int → Int} {q : Nat → Int64}
abbrev LJ (p : Program) (l : Launch) (e : Env) (s : State) (m : MethodId) (bs : Nat) (below : List Frame) (meth : Method) (c : Code) (D : va_G) (G : GG) (A : Nat → Prop) (cells slots pc : Nat) (L : Nat → Option AV) (st : List AV) (ws : EW) : Prop := S_ p l e room_1 s m #[Value.ref bs] below meth c (lw_Z below #[Value.ref bs] s) D G A 7 cells slots pc L st ws
def Hd (p : Program) (l : Launch) (e : Env) (s : State) (m : MethodId) (bs : Nat) (below : List Frame) (meth : Method) (c : Code) (D : va_G) (G : GG) (A : Nat → Prop) (a b : Nat → Nat) (o : Nat) (i : Nat) : Prop :=
  ∀ (v : Nat → Int) (g : Nat → Int → Int) (R : Int → Int → Int) (ds : List LwS) (ys : Nat → LwY) (w : Nat → Int) (h : Nat → Int → Int) (q : Nat → Int64) (L : Nat → Option AV) (cells slots : Nat), Inv v g ds ys w h → L 0 = some (rv bs) → L 1 = some (rv (a 19)) → L 2 = some (rv (b 0)) → L 3 = some (rv o) → L 4 = some (iv (6 * (i : Int))) → cells ≤ 1000 + 20 * i → slots ≤ 20000 + 1500 * i → LJ p l e s m bs below meth c D G A cells slots 23 L [] (CW a v g R ds ys ++ ((o, al 1 q) :: RW b w h))
theorem S_arg (X : Cx p s m #[Value.ref bs] meth c D G A code 7 ret RL) (hX : va_X bs N xs s s.heap) (hbl : bs < s.heap.size) (hA : ¬ A bs) (hN : N ≤ 3072) (hi : 6 * i + 6 ≤ N) (h0 : L 0 = some (rv bs)) (h4 : L 4 = some (iv (6 * (i : Int)))) (k : Int) (hk : 0 ≤ k ∧ k ≤ 5) (d0 : decode code pc = .ok (.aload_n 0, 1)) (d1 : decode code (pc + 1) = .ok (.iload 4, 2)) (d2 : decode code (pc + 3) = .ok (.iconst k, 1)) (d3 : decode code (pc + 4) = .ok (.iadd, 1)) (d4 : decode code (pc + 5) = .ok (.iaload, 1)) (kk : LJ p l e s m bs below meth c D G A cells slots (pc + 6) L (iv (sc xs i k) :: st) ws) : LJ p l e s m bs below meth c D G A cells slots pc L st ws := by
  refine S_aload_n X d0 rfl h0 ?_
  refine S_iload X d1 h4 ?_
  refine S_iconst X d2 ?_
  refine S_iadd X d3 ?_
  exact S_sld X hX hbl hA (by omega) (by omega) (by omega) d4 kk
theorem S_iceqT (X : Cx p s m #[Value.ref bs] meth c D G A code 7 ret RL) {x y : Int} {off : Int} {tgt : Nat} (hdg : decode code pc = .ok (.if_icmp .eq off, 3)) (ht : (pc : Int) + off = (tgt : Int)) (h : x = y) (kt : LJ p l e s m bs below meth c D G A cells slots tgt L st ws) : LJ p l e s m bs below meth c D G A cells slots pc L (iv y :: iv x :: st) ws :=
  fun H locs ls hP hD hS hl => lv_icmp_eq X.1 X.2.1 hdg ht (fun _ => kt H locs ls hP hD hS hl) (fun h2 => absurd (congrArg i32 h) h2)
theorem S_end (X : Cx p s m #[Value.ref bs] meth c D G A code 7 ret RL) (hAs : ∀ q, A q → s.heap.size ≤ q) (hdg : decode code pc = .ok (.ireturn, 1)) (hc : cells ≤ 601024) (hs : slots ≤ 7293034) : LJ p l e s m bs below meth c D G A cells slots pc L [iv 1] ws := by
  intro H locs ls hP hD hS hl
  refine va_forget (fun q hq => hAs _ (hS.2.2 q hq)) ?_
  refine W.widen (k := 601024) (n := 7293034) hc hs ?_
  exact lw_ret X.1 X.2.1 X.2.2.2.2.2.2.2.2.1 X.2.2.2.2.2.2.2.2.2 hdg
theorem cw_19 {wb : EW} : (CW a v g R ds ys ++ wb)[19]? = some (a 19, ob 10 (o10 a v)) := rfl
theorem law_C {y : MethodName} {bb : ByteArray} {n d mc ms idx k : Nat} {ret1 : FieldType} {avs rest : List AV} {wb : EW} {Post : Int → EW → Prop} (X : Cx p s m #[Value.ref bs] meth c D G A code 7 ret RL) (hM : AMi l y bb n ret1 d mc ms (rv (a 19) :: avs) (CW a v g R ds ys) Post) (K : LkV RL idx y bb n (some ret1) k) (hy : some "BorrowedBeat" = some y.cls) (hst : st = avs.reverse ++ rv (a 19) :: rest) (hk : avs.length = k) (h8 : rest.length ≤ 8) (hR : d + 1 ≤ 2048 ∧ 8 + (n + 11) + 40 * d ≤ 84000) (hc : cells + mc ≤ 601024) (hs : slots + ms ≤ 7293034) (hdg : decode code pc = .ok (.invokevirtual idx, 3)) (kk : ∀ (z : Int) (u : EW), Post z u → LJ p l e s m bs below meth c D G A (cells + mc) (slots + ms) (pc + 3) L (iv z :: rest) (u ++ wb)) : LJ p l e s m bs below meth c D G A cells slots pc L st (CW a v g R ds ys ++ wb) :=
  S_callL X hM (run_V X K 19 cw_19 hy (is := List.range (CW a v g R ds ys).length) hst hk h8 hR ⟨hc, hs⟩ hdg (rg_nd _) rg_L) kk
theorem law_R {y : MethodName} {bb : ByteArray} {n d mc ms idx k : Nat} {ret1 : FieldType} {avs rest : List AV} {u : EW} {Post : Int → EW → Prop} (X : Cx p s m #[Value.ref bs] meth c D G A code 7 ret RL) (hM : AMi l y bb n ret1 d mc ms (rv (b 0) :: avs) (RW b w h) Post) (K : LkV RL idx y bb n (some ret1) k) (hy : some "BorrowedBeatModel" = some y.cls) (hst : st = avs.reverse ++ rv (b 0) :: rest) (hk : avs.length = k) (h8 : rest.length ≤ 8) (hR : d + 1 ≤ 2048 ∧ 8 + (n + 11) + 40 * d ≤ 84000) (hc : cells + mc ≤ 601024) (hs : slots + ms ≤ 7293034) (hdg : decode code pc = .ok (.invokevirtual idx, 3)) (kk : ∀ (z : Int) (u2 : EW), Post z u2 → LJ p l e s m bs below meth c D G A (cells + mc) (slots + ms) (pc + 3) L (iv z :: rest) (u ++ ((o, al 1 q) :: u2))) : LJ p l e s m bs below meth c D G A cells slots pc L st (u ++ ((o, al 1 q) :: RW b w h)) := by
  have e1 : ∀ u2 : EW, u ++ ((o, al 1 q) :: u2) = (u ++ [(o, al 1 q)]) ++ (u2 ++ []) := fun u2 => by rw [List.append_nil, List.append_assoc]; rfl
  have e2 : ((u ++ [(o, al 1 q)]) ++ (RW b w h ++ []))[u.length + 1]? = some (b 0, ob 11 (o11 b w)) := by
    rw [List.getElem?_append_right (by rw [List.length_append]; exact Nat.le_refl _), List.length_append, List.length_singleton, Nat.sub_self]
    rfl
  refine S_w (e1 _) ?_
  refine S_callM X hM (run_V X K (u.length + 1) e2 hy (is := rgM (u ++ [(o, al 1 q)]).length (RW b w h).length) hst hk h8 hR ⟨hc, hs⟩ hdg (rgM_nd _ _) rg_M) (fun z u2 hq => ?_)
  exact S_w (e1 _).symm (kk z u2 hq)
theorem S_llc (X : Cx p s m #[Value.ref bs] meth c D G A code 7 ret RL) (q0 : Nat) {g9 : Nat → Int64} {y : Int} {ib : Nat} (ha : ws[q0]? = some (o, al 1 g9)) (hL3 : L 3 = some (rv o)) (hLb : L ib = some (iv y)) (heq : g9 0 = (i32 y).toInt64) (d0 : decode code pc = .ok (.aload_n 3, 1)) (d1 : decode code (pc + 1) = .ok (.iconst 0, 1)) (d2 : decode code (pc + 2) = .ok (.laload, 1)) (d3 : decode code (pc + 3) = .ok (.iload ib, 2)) (d4 : decode code (pc + 5) = .ok (.i2l, 1)) (d5 : decode code (pc + 6) = .ok (.lcmp, 1)) (k : LJ p l e s m bs below meth c D G A cells slots (pc + 7) L (iv 0 :: st) ws) : LJ p l e s m bs below meth c D G A cells slots pc L st ws := by
  refine S_aload_n X d0 rfl hL3 ?_
  refine S_iconst X d1 ?_
  intro H locs ls hP hD hS hl
  refine va_lald X.1 X.2.1 X.2.2.2.2.2.1 hP q0 2 (tW_at ha) rfl (i := i32 0) (i32_vp (by omega) (by omega) (by omega)) d2 ?_
  refine lv_iload X.1 X.2.1 d3 (hl.2.2 _ _ hLb) ?_
  refine lv_i2l (v := (i32 y).toInt64) X.1 X.2.1 d4 rfl ?_
  refine W.lcmp X.1 X.2.1 d5 ?_
  have e1 : lg_cmp (g9 (i32 0).toNatClampNeg) ((i32 y).toInt64) = i32 0 := by
    rw [show (i32 0).toNatClampNeg = 0 from rfl, heq]
    simp [lg_cmp]
    rfl
  rw [e1]
  exact k H locs ls hP hD hS hl
theorem law_next (X : Cx p s m #[Value.ref bs] meth c D G A code 7 ret RL) (hH : Hd p l e s m bs below meth c D G A a b o (i + 1)) (hI : Inv v g ds ys w h) (h0 : L 0 = some (rv bs)) (h1 : L 1 = some (rv (a 19))) (h2 : L 2 = some (rv (b 0))) (h3 : L 3 = some (rv o)) (h4 : L 4 = some (iv (6 * (i : Int)))) (hc : cells ≤ 1000 + 20 * (i + 1)) (hs : slots ≤ 20000 + 1500 * (i + 1)) : LJ p l e s m bs below meth c D G A cells slots 1373 L [] (CW a v g R ds ys ++ ((o, al 1 q) :: RW b w h)) := by
  refine S_iinc X dL_law_1373 (by decide) h4 ?_
  refine S_goto (tgt := 23) X dL_law_1376 (by decide) ?_
  refine hH v g R ds ys w h q _ _ _ hI h0 h1 h2 h3 ?_ hc hs
  show some (iv (6 * (i : Int) + 6)) = some (iv (6 * ((i + 1 : Nat) : Int)))
  rw [show 6 * (i : Int) + 6 = 6 * ((i + 1 : Nat) : Int) by omega]
set_option maxRecDepth 100000 in
set_option maxHeartbeats 2000000 in
theorem law_k0 (X : Cx p s m #[Value.ref bs] meth c D G A code 7 ret RL) (hU : XU A s s.heap) (hlf : l.stackTraces = false) (hX : va_X bs N xs s s.heap) (hbl : bs < s.heap.size) (hA : ¬ A bs) (hN : N ≤ 3072) (hi : 6 * i + 6 ≤ N) (hH : Hd p l e s m bs below meth c D G A a b o (i + 1)) (hI : Inv v g ds ys w h) (h0 : L 0 = some (rv bs)) (h1 : L 1 = some (rv (a 19))) (h2 : L 2 = some (rv (b 0))) (h3 : L 3 = some (rv o)) (h4 : L 4 = some (iv (6 * (i : Int)))) (hc : cells ≤ 1000 + 20 * i) (hs : slots ≤ 20000 + 1500 * i) : LJ p l e s m bs below meth c D G A cells slots 208 L [] (CW a v g R ds ys ++ ((o, al 1 q) :: RW b w h)) := by
  refine S_aload_n X dL_law_208 rfl h1 ?_
  refine S_arg X hX hbl hA hN hi h0 h4 1 (by decide) dL_law_209 dL_law_210 dL_law_212 dL_law_213 dL_law_214 ?_
  refine S_arg X hX hbl hA hN hi h0 h4 2 (by decide) dL_law_215 dL_law_216 dL_law_218 dL_law_219 dL_law_220 ?_
  refine S_arg X hX hbl hA hN hi h0 h4 3 (by decide) dL_law_221 dL_law_222 dL_law_224 dL_law_225 dL_law_226 ?_
  refine S_arg X hX hbl hA hN hi h0 h4 4 (by decide) dL_law_227 dL_law_228 dL_law_230 dL_law_231 dL_law_232 ?_
  refine S_arg X hX hbl hA hN hi h0 h4 5 (by decide) dL_law_233 dL_law_234 dL_law_236 dL_law_237 dL_law_238 ?_
  refine law_C X (qX11_feed l a v g R ds ys (sc xs i 1) (sc xs i 2) (sc xs i 3) (sc xs i 4) (sc xs i 5) ⟨hI.1.1.1, hI.1.1.2.1⟩) lkL_19 rfl (avs := [iv (sc xs i 1), iv (sc xs i 2), iv (sc xs i 3), iv (sc xs i 4), iv (sc xs i 5)]) (rest := []) rfl rfl (nle rfl) ⟨nle rfl, nle rfl⟩ (by omega) (by omega) dL_law_239 (fun z u hq => ?_)
  refine S_pop X dL_law_242 ?_
  refine S_aload_n X dL_law_243 rfl h2 ?_
  refine S_arg X hX hbl hA hN hi h0 h4 1 (by decide) dL_law_244 dL_law_245 dL_law_247 dL_law_248 dL_law_249 ?_
  refine S_arg X hX hbl hA hN hi h0 h4 2 (by decide) dL_law_250 dL_law_251 dL_law_253 dL_law_254 dL_law_255 ?_
  refine S_arg X hX hbl hA hN hi h0 h4 3 (by decide) dL_law_256 dL_law_257 dL_law_259 dL_law_260 dL_law_261 ?_
  refine S_arg X hX hbl hA hN hi h0 h4 4 (by decide) dL_law_262 dL_law_263 dL_law_265 dL_law_266 dL_law_267 ?_
  refine S_arg X hX hbl hA hN hi h0 h4 5 (by decide) dL_law_268 dL_law_269 dL_law_271 dL_law_272 dL_law_273 ?_
  refine law_R X (qX12_feed l b w h (sc xs i 1) (sc xs i 2) (sc xs i 3) (sc xs i 4) (sc xs i 5) hI.rn) lkL_23 rfl (avs := [iv (sc xs i 1), iv (sc xs i 2), iv (sc xs i 3), iv (sc xs i 4), iv (sc xs i 5)]) (rest := []) rfl rfl (nle rfl) ⟨nle rfl, nle rfl⟩ (by omega) (by omega) dL_law_274 (fun z2 u2 hq2 => ?_)
  obtain ⟨hz, v9, g9, R9, ds9, ys9, w9, h9, rfl, rfl, hI9⟩ := pr_feed hI hq hq2
  refine S_pop X dL_law_277 ?_
  refine S_goto (tgt := 1373) X dL_law_278 (by decide) ?_
  exact law_next X hH hI9 h0 h1 h2 h3 h4 (by omega) (by omega)
set_option maxRecDepth 100000 in
set_option maxHeartbeats 2000000 in
theorem law_k1 (X : Cx p s m #[Value.ref bs] meth c D G A code 7 ret RL) (hU : XU A s s.heap) (hlf : l.stackTraces = false) (hX : va_X bs N xs s s.heap) (hbl : bs < s.heap.size) (hA : ¬ A bs) (hN : N ≤ 3072) (hi : 6 * i + 6 ≤ N) (hH : Hd p l e s m bs below meth c D G A a b o (i + 1)) (hI : Inv v g ds ys w h) (h0 : L 0 = some (rv bs)) (h1 : L 1 = some (rv (a 19))) (h2 : L 2 = some (rv (b 0))) (h3 : L 3 = some (rv o)) (h4 : L 4 = some (iv (6 * (i : Int)))) (hc : cells ≤ 1000 + 20 * i) (hs : slots ≤ 20000 + 1500 * i) : LJ p l e s m bs below meth c D G A cells slots 281 L [] (CW a v g R ds ys ++ ((o, al 1 q) :: RW b w h)) := by
  refine S_aload_n X dL_law_281 rfl h1 ?_
  refine S_arg X hX hbl hA hN hi h0 h4 1 (by decide) dL_law_282 dL_law_283 dL_law_285 dL_law_286 dL_law_287 ?_
  refine law_C X (qX11_end l a v g R ds ys (sc xs i 1) ⟨hI.1.1.1, hI.1.1.2.1⟩ (toInt_inR _)) lkL_24 rfl (avs := [iv (sc xs i 1)]) (rest := []) rfl rfl (nle rfl) ⟨nle rfl, nle rfl⟩ (by omega) (by omega) dL_law_288 (fun z u hq => ?_)
  refine S_pop X dL_law_291 ?_
  refine S_aload_n X dL_law_292 rfl h2 ?_
  refine S_arg X hX hbl hA hN hi h0 h4 1 (by decide) dL_law_293 dL_law_294 dL_law_296 dL_law_297 dL_law_298 ?_
  refine law_R X (qX12_end l b w h (sc xs i 1) hI.rn (toInt_inR _)) lkL_28 rfl (avs := [iv (sc xs i 1)]) (rest := []) rfl rfl (nle rfl) ⟨nle rfl, nle rfl⟩ (by omega) (by omega) dL_law_299 (fun z2 u2 hq2 => ?_)
  obtain ⟨hz, v9, g9, R9, ds9, ys9, w9, h9, rfl, rfl, hI9⟩ := pr_end hI hq hq2
  refine S_pop X dL_law_302 ?_
  refine S_goto (tgt := 1373) X dL_law_303 (by decide) ?_
  exact law_next X hH hI9 h0 h1 h2 h3 h4 (by omega) (by omega)
set_option maxRecDepth 100000 in
set_option maxHeartbeats 2000000 in
theorem law_k2 (X : Cx p s m #[Value.ref bs] meth c D G A code 7 ret RL) (hU : XU A s s.heap) (hlf : l.stackTraces = false) (hX : va_X bs N xs s s.heap) (hbl : bs < s.heap.size) (hA : ¬ A bs) (hN : N ≤ 3072) (hi : 6 * i + 6 ≤ N) (hH : Hd p l e s m bs below meth c D G A a b o (i + 1)) (hI : Inv v g ds ys w h) (h0 : L 0 = some (rv bs)) (h1 : L 1 = some (rv (a 19))) (h2 : L 2 = some (rv (b 0))) (h3 : L 3 = some (rv o)) (h4 : L 4 = some (iv (6 * (i : Int)))) (hc : cells ≤ 1000 + 20 * i) (hs : slots ≤ 20000 + 1500 * i) : LJ p l e s m bs below meth c D G A cells slots 306 L [] (CW a v g R ds ys ++ ((o, al 1 q) :: RW b w h)) := by
  refine S_aload_n X dL_law_306 rfl h1 ?_
  refine S_arg X hX hbl hA hN hi h0 h4 1 (by decide) dL_law_307 dL_law_308 dL_law_310 dL_law_311 dL_law_312 ?_
  refine law_C X (qX11_fault l a v g R ds ys (sc xs i 1) hI.1.1 (toInt_inR _)) lkL_29 rfl (avs := [iv (sc xs i 1)]) (rest := []) rfl rfl (nle rfl) ⟨nle rfl, nle rfl⟩ (by omega) (by omega) dL_law_313 (fun z u hq => ?_)
  refine S_pop X dL_law_316 ?_
  refine S_aload_n X dL_law_317 rfl h2 ?_
  refine S_arg X hX hbl hA hN hi h0 h4 1 (by decide) dL_law_318 dL_law_319 dL_law_321 dL_law_322 dL_law_323 ?_
  refine law_R X (qX12_fault l b w h R (sc xs i 1) hI.rT (toInt_inR _)) lkL_33 rfl (avs := [iv (sc xs i 1)]) (rest := []) rfl rfl (nle rfl) ⟨nle rfl, nle rfl⟩ (by omega) (by omega) dL_law_324 (fun z2 u2 hq2 => ?_)
  obtain ⟨hz, v9, g9, R9, ds9, ys9, w9, h9, rfl, rfl, hI9⟩ := pr_fault hI hq hq2
  refine S_pop X dL_law_327 ?_
  refine S_goto (tgt := 1373) X dL_law_328 (by decide) ?_
  exact law_next X hH hI9 h0 h1 h2 h3 h4 (by omega) (by omega)
set_option maxRecDepth 100000 in
set_option maxHeartbeats 2000000 in
theorem law_k3 (X : Cx p s m #[Value.ref bs] meth c D G A code 7 ret RL) (hU : XU A s s.heap) (hlf : l.stackTraces = false) (hX : va_X bs N xs s s.heap) (hbl : bs < s.heap.size) (hA : ¬ A bs) (hN : N ≤ 3072) (hi : 6 * i + 6 ≤ N) (hH : Hd p l e s m bs below meth c D G A a b o (i + 1)) (hI : Inv v g ds ys w h) (h0 : L 0 = some (rv bs)) (h1 : L 1 = some (rv (a 19))) (h2 : L 2 = some (rv (b 0))) (h3 : L 3 = some (rv o)) (h4 : L 4 = some (iv (6 * (i : Int)))) (hc : cells ≤ 1000 + 20 * i) (hs : slots ≤ 20000 + 1500 * i) : LJ p l e s m bs below meth c D G A cells slots 331 L [] (CW a v g R ds ys ++ ((o, al 1 q) :: RW b w h)) := by
  refine S_aload_n X dL_law_331 rfl h1 ?_
  refine S_arg X hX hbl hA hN hi h0 h4 1 (by decide) dL_law_332 dL_law_333 dL_law_335 dL_law_336 dL_law_337 ?_
  refine law_C X (qX11_text l a v g R ds ys (sc xs i 1) hI.1.1 ⟨hI.1.1.1, hI.1.1.2.1⟩ (toInt_inR _) hI.2.1.1 hI.2.1.2.1) lkL_34 rfl (avs := [iv (sc xs i 1)]) (rest := []) rfl rfl (nle rfl) ⟨nle rfl, nle rfl⟩ (by omega) (by omega) dL_law_338 (fun z u hq => ?_)
  refine S_pop X dL_law_341 ?_
  refine S_aload_n X dL_law_342 rfl h2 ?_
  refine S_arg X hX hbl hA hN hi h0 h4 1 (by decide) dL_law_343 dL_law_344 dL_law_346 dL_law_347 dL_law_348 ?_
  refine law_R X (qX12_text l b w h R (sc xs i 1) hI.rT (toInt_inR _) hI.rlw) lkL_37 rfl (avs := [iv (sc xs i 1)]) (rest := []) rfl rfl (nle rfl) ⟨nle rfl, nle rfl⟩ (by omega) (by omega) dL_law_349 (fun z2 u2 hq2 => ?_)
  obtain ⟨hz, v9, g9, R9, ds9, ys9, w9, h9, rfl, rfl, hI9⟩ := pr_text hI hq hq2
  refine S_pop X dL_law_352 ?_
  refine S_goto (tgt := 1373) X dL_law_353 (by decide) ?_
  exact law_next X hH hI9 h0 h1 h2 h3 h4 (by omega) (by omega)
set_option maxRecDepth 100000 in
set_option maxHeartbeats 2000000 in
theorem law_k4 (X : Cx p s m #[Value.ref bs] meth c D G A code 7 ret RL) (hU : XU A s s.heap) (hlf : l.stackTraces = false) (hX : va_X bs N xs s s.heap) (hbl : bs < s.heap.size) (hA : ¬ A bs) (hN : N ≤ 3072) (hi : 6 * i + 6 ≤ N) (hH : Hd p l e s m bs below meth c D G A a b o (i + 1)) (hI : Inv v g ds ys w h) (h0 : L 0 = some (rv bs)) (h1 : L 1 = some (rv (a 19))) (h2 : L 2 = some (rv (b 0))) (h3 : L 3 = some (rv o)) (h4 : L 4 = some (iv (6 * (i : Int)))) (hc : cells ≤ 1000 + 20 * i) (hs : slots ≤ 20000 + 1500 * i) : LJ p l e s m bs below meth c D G A cells slots 356 L [] (CW a v g R ds ys ++ ((o, al 1 q) :: RW b w h)) := by
  refine S_aload_n X dL_law_356 rfl h1 ?_
  refine S_arg X hX hbl hA hN hi h0 h4 1 (by decide) dL_law_357 dL_law_358 dL_law_360 dL_law_361 dL_law_362 ?_
  refine S_arg X hX hbl hA hN hi h0 h4 2 (by decide) dL_law_363 dL_law_364 dL_law_366 dL_law_367 dL_law_368 ?_
  refine S_aload_n X dL_law_369 rfl h3 ?_
  have hpl := hI.pl
  have e1 : ∀ q9 : Nat → Int64, CW a v g R ds ys ++ ((o, al 1 q9) :: RW b w h) = (CW a v g R ds ys ++ [(o, al 1 q9)]) ++ RW b w h := fun q9 => (List.append_assoc (CW a v g R ds ys) [(o, al 1 q9)] (RW b w h)).symm
  refine S_w (e1 q) ?_
  refine S_callH X hU (kL_player l hlf a v g R ds ys o q (sc xs i 1) (sc xs i 2) hI.pl6 (toInt_inR _) (toInt_inR _)) lkL_pl (avs := [rv (a 19), iv (sc xs i 1), iv (sc xs i 2), rv o]) (rest := []) rfl rfl (nle rfl) ⟨nle rfl, nle rfl⟩ ⟨show cells + 1 ≤ 601024 by omega, show slots + 6 ≤ 7293034 by omega⟩ dL_law_370 (fun z u hq => ?_)
  rcases hq with ⟨hz, hok, hu⟩ | ⟨hz, hok, hu⟩
  · subst hz
    subst hu
    refine S_istore X dL_law_373 (by decide) ?_
    refine S_w (e1 q).symm ?_
    refine S_aload_n X dL_law_375 rfl h2 ?_
    refine S_arg X hX hbl hA hN hi (L := uF L 5 (some (iv 1))) h0 h4 1 (by decide) dL_law_376 dL_law_377 dL_law_379 dL_law_380 dL_law_381 ?_
    refine S_arg X hX hbl hA hN hi (L := uF L 5 (some (iv 1))) h0 h4 2 (by decide) dL_law_382 dL_law_383 dL_law_385 dL_law_386 dL_law_387 ?_
    refine law_R X (qX12_player l b w h (sc xs i 1) (sc xs i 2) hI.rpl (toInt_inR _) (toInt_inR _)) lkL_43 rfl (avs := [iv (sc xs i 1), iv (sc xs i 2)]) (rest := []) rfl rfl (nle rfl) ⟨nle rfl, nle rfl⟩ (by omega) (by omega) dL_law_388 (fun z2 u2 hq2 => ?_)
    rcases hq2 with ⟨hy, hu2, hk⟩ | ⟨z9, hy, hu2, hk, hz9⟩
    · subst hu2
      have hI9 : Inv v g ds ys (uF w 0 1) h := hI
      refine S_istore X dL_law_391 (by decide) ?_
      refine S_aload_n X dL_law_393 rfl h2 ?_
      refine law_R X (qX12_thrown l b (uF w 0 1) h) lkL_44 rfl (avs := []) (rest := []) rfl rfl (nle rfl) ⟨nle rfl, nle rfl⟩ (by omega) (by omega) dL_law_394 (fun z3 u3 hq3 => ?_)
      obtain ⟨hz3, hu3⟩ := hq3
      subst hu3
      have hz4 : z3 = 1 := hz3
      refine S_iload (z := 1) X dL_law_397 rfl ?_
      refine S_iceqT (tgt := 404) X dL_law_399 (by decide) hz4 ?_
      refine S_iload (z := 1) X dL_law_404 rfl ?_
      refine S_if_ne (tgt := 421) X dL_law_406 (by decide) (by decide) (fun _ => ?_) (fun h9 => absurd h9 (by decide))
      refine S_goto (tgt := 1373) X dL_law_421 (by decide) ?_
      exact law_next X hH hI9 h0 h1 h2 h3 h4 (by omega) (by omega)
    · exact absurd (show plOk v _ _ from by rw [hpl] at hk; exact hk) hok
  · subst hz
    subst hu
    refine S_istore X dL_law_373 (by decide) ?_
    refine S_w (e1 (va_up q (i32 0).toNatClampNeg (i32 (pl11 v g (sc xs i 1) (sc xs i 2))).toInt64)).symm ?_
    refine S_aload_n X dL_law_375 rfl h2 ?_
    refine S_arg X hX hbl hA hN hi (L := uF L 5 (some (iv 0))) h0 h4 1 (by decide) dL_law_376 dL_law_377 dL_law_379 dL_law_380 dL_law_381 ?_
    refine S_arg X hX hbl hA hN hi (L := uF L 5 (some (iv 0))) h0 h4 2 (by decide) dL_law_382 dL_law_383 dL_law_385 dL_law_386 dL_law_387 ?_
    refine law_R X (qX12_player l b w h (sc xs i 1) (sc xs i 2) hI.rpl (toInt_inR _) (toInt_inR _)) lkL_43 rfl (avs := [iv (sc xs i 1), iv (sc xs i 2)]) (rest := []) rfl rfl (nle rfl) ⟨nle rfl, nle rfl⟩ (by omega) (by omega) dL_law_388 (fun z2 u2 hq2 => ?_)
    rcases hq2 with ⟨hy, hu2, hk⟩ | ⟨z9, hy, hu2, hk, hz9⟩
    · exact absurd (show (0 ≤ sc xs i 1 ∧ sc xs i 1 < w 21) ∧ 0 ≤ sc xs i 2 ∧ sc xs i 2 ≤ 6 from by rw [hpl]; exact hok) hk
    · subst hu2
      have hI9 : Inv v g ds ys (uF w 0 0) h := hI
      refine S_istore X dL_law_391 (by decide) ?_
      refine S_aload_n X dL_law_393 rfl h2 ?_
      refine law_R X (qX12_thrown l b (uF w 0 0) h) lkL_44 rfl (avs := []) (rest := []) rfl rfl (nle rfl) ⟨nle rfl, nle rfl⟩ (by omega) (by omega) dL_law_394 (fun z3 u3 hq3 => ?_)
      obtain ⟨hz3, hu3⟩ := hq3
      subst hu3
      have hz4 : z3 = 0 := hz3
      refine S_iload (z := 0) X dL_law_397 rfl ?_
      refine S_iceqT (tgt := 404) X dL_law_399 (by decide) hz4 ?_
      refine S_iload (z := 0) X dL_law_404 rfl ?_
      refine S_if_ne (tgt := 421) X dL_law_406 (by decide) (by decide) (fun h9 => absurd rfl h9) (fun _ => ?_)
      have ha9 : (CW a v g R ds ys ++ ((o, al 1 (va_up q (i32 0).toNatClampNeg (i32 (pl11 v g (sc xs i 1) (sc xs i 2))).toInt64)) :: RW b (uF w 0 0) h))[(CW a v g R ds ys).length]? = some (o, al 1 (va_up q (i32 0).toNatClampNeg (i32 (pl11 v g (sc xs i 1) (sc xs i 2))).toInt64)) := by
        rw [List.getElem?_append_right (Nat.le_refl _), Nat.sub_self]
        rfl
      refine S_llc X (CW a v g R ds ys).length ha9 h3 (ib := 6) (y := z2) rfl (by rw [hy, hz9, ← pl_eq hI hok]; rfl) dL_law_409 dL_law_410 dL_law_411 dL_law_412 dL_law_414 dL_law_415 ?_
      refine S_if_eq (tgt := 421) X dL_law_416 (by decide) (by decide) (fun _ => ?_) (fun h9 => absurd rfl h9)
      refine S_goto (tgt := 1373) X dL_law_421 (by decide) ?_
      exact law_next X hH hI9 h0 h1 h2 h3 h4 (by omega) (by omega)
set_option maxRecDepth 100000 in
set_option maxHeartbeats 2000000 in
theorem law_k5 (X : Cx p s m #[Value.ref bs] meth c D G A code 7 ret RL) (hU : XU A s s.heap) (hlf : l.stackTraces = false) (hX : va_X bs N xs s s.heap) (hbl : bs < s.heap.size) (hA : ¬ A bs) (hN : N ≤ 3072) (hi : 6 * i + 6 ≤ N) (hH : Hd p l e s m bs below meth c D G A a b o (i + 1)) (hI : Inv v g ds ys w h) (h0 : L 0 = some (rv bs)) (h1 : L 1 = some (rv (a 19))) (h2 : L 2 = some (rv (b 0))) (h3 : L 3 = some (rv o)) (h4 : L 4 = some (iv (6 * (i : Int)))) (hc : cells ≤ 1000 + 20 * i) (hs : slots ≤ 20000 + 1500 * i) : LJ p l e s m bs below meth c D G A cells slots 424 L [] (CW a v g R ds ys ++ ((o, al 1 q) :: RW b w h)) := by
  refine S_aload_n X dL_law_424 rfl h1 ?_
  refine S_arg X hX hbl hA hN hi h0 h4 1 (by decide) dL_law_425 dL_law_426 dL_law_428 dL_law_429 dL_law_430 ?_
  refine S_arg X hX hbl hA hN hi h0 h4 2 (by decide) dL_law_431 dL_law_432 dL_law_434 dL_law_435 dL_law_436 ?_
  refine law_C X (qX11_set l a v g R ds ys (sc xs i 1) (sc xs i 2) hI.2.1.1.2 (toInt_inR _) (toInt_inR _)) lkL_48 rfl (avs := [iv (sc xs i 1), iv (sc xs i 2)]) (rest := []) rfl rfl (nle rfl) ⟨nle rfl, nle rfl⟩ (by omega) (by omega) dL_law_437 (fun z u hq => ?_)
  refine S_pop X dL_law_440 ?_
  refine S_aload_n X dL_law_441 rfl h2 ?_
  refine S_arg X hX hbl hA hN hi h0 h4 1 (by decide) dL_law_442 dL_law_443 dL_law_445 dL_law_446 dL_law_447 ?_
  refine S_arg X hX hbl hA hN hi h0 h4 2 (by decide) dL_law_448 dL_law_449 dL_law_451 dL_law_452 dL_law_453 ?_
  refine law_R X (qX12_set l b w h (sc xs i 1) (sc xs i 2) hI.rlw (toInt_inR _) (toInt_inR _)) lkL_52 rfl (avs := [iv (sc xs i 1), iv (sc xs i 2)]) (rest := []) rfl rfl (nle rfl) ⟨nle rfl, nle rfl⟩ (by omega) (by omega) dL_law_454 (fun z2 u2 hq2 => ?_)
  obtain ⟨hz, v9, g9, R9, ds9, ys9, w9, h9, rfl, rfl, hI9⟩ := pr_set hI hq hq2
  refine S_pop X dL_law_457 ?_
  refine S_goto (tgt := 1373) X dL_law_458 (by decide) ?_
  exact law_next X hH hI9 h0 h1 h2 h3 h4 (by omega) (by omega)
set_option maxRecDepth 100000 in
set_option maxHeartbeats 2000000 in
theorem law_k6 (X : Cx p s m #[Value.ref bs] meth c D G A code 7 ret RL) (hU : XU A s s.heap) (hlf : l.stackTraces = false) (hX : va_X bs N xs s s.heap) (hbl : bs < s.heap.size) (hA : ¬ A bs) (hN : N ≤ 3072) (hi : 6 * i + 6 ≤ N) (hH : Hd p l e s m bs below meth c D G A a b o (i + 1)) (hI : Inv v g ds ys w h) (h0 : L 0 = some (rv bs)) (h1 : L 1 = some (rv (a 19))) (h2 : L 2 = some (rv (b 0))) (h3 : L 3 = some (rv o)) (h4 : L 4 = some (iv (6 * (i : Int)))) (hc : cells ≤ 1000 + 20 * i) (hs : slots ≤ 20000 + 1500 * i) : LJ p l e s m bs below meth c D G A cells slots 461 L [] (CW a v g R ds ys ++ ((o, al 1 q) :: RW b w h)) := by
  refine S_aload_n X dL_law_461 rfl h1 ?_
  refine S_arg X hX hbl hA hN hi h0 h4 1 (by decide) dL_law_462 dL_law_463 dL_law_465 dL_law_466 dL_law_467 ?_
  refine S_arg X hX hbl hA hN hi h0 h4 2 (by decide) dL_law_468 dL_law_469 dL_law_471 dL_law_472 dL_law_473 ?_
  refine S_arg X hX hbl hA hN hi h0 h4 3 (by decide) dL_law_474 dL_law_475 dL_law_477 dL_law_478 dL_law_479 ?_
  refine law_C X (qX11_tell l a v g R ds ys (sc xs i 1) (sc xs i 2) (sc xs i 3) hI.pl6 (toInt_inR _) (toInt_inR _) (toInt_inR _)) lkL_53 rfl (avs := [iv (sc xs i 1), iv (sc xs i 2), iv (sc xs i 3)]) (rest := []) rfl rfl (nle rfl) ⟨nle rfl, nle rfl⟩ (by omega) (by omega) dL_law_480 (fun z u hq => ?_)
  refine S_pop X dL_law_483 ?_
  refine S_aload_n X dL_law_484 rfl h2 ?_
  refine S_arg X hX hbl hA hN hi h0 h4 1 (by decide) dL_law_485 dL_law_486 dL_law_488 dL_law_489 dL_law_490 ?_
  refine S_arg X hX hbl hA hN hi h0 h4 2 (by decide) dL_law_491 dL_law_492 dL_law_494 dL_law_495 dL_law_496 ?_
  refine S_arg X hX hbl hA hN hi h0 h4 3 (by decide) dL_law_497 dL_law_498 dL_law_500 dL_law_501 dL_law_502 ?_
  refine law_R X (qX12_tell l b w h (sc xs i 1) (sc xs i 2) (sc xs i 3) hI.rpl (toInt_inR _) (toInt_inR _) (toInt_inR _)) lkL_57 rfl (avs := [iv (sc xs i 1), iv (sc xs i 2), iv (sc xs i 3)]) (rest := []) rfl rfl (nle rfl) ⟨nle rfl, nle rfl⟩ (by omega) (by omega) dL_law_503 (fun z2 u2 hq2 => ?_)
  obtain ⟨hz, v9, g9, R9, ds9, ys9, w9, h9, rfl, rfl, hI9⟩ := pr_tell hI hq hq2
  refine S_pop X dL_law_506 ?_
  refine S_goto (tgt := 1373) X dL_law_507 (by decide) ?_
  exact law_next X hH hI9 h0 h1 h2 h3 h4 (by omega) (by omega)
set_option maxRecDepth 100000 in
set_option maxHeartbeats 2000000 in
theorem law_k7 (X : Cx p s m #[Value.ref bs] meth c D G A code 7 ret RL) (hU : XU A s s.heap) (hlf : l.stackTraces = false) (hX : va_X bs N xs s s.heap) (hbl : bs < s.heap.size) (hA : ¬ A bs) (hN : N ≤ 3072) (hi : 6 * i + 6 ≤ N) (hH : Hd p l e s m bs below meth c D G A a b o (i + 1)) (hI : Inv v g ds ys w h) (h0 : L 0 = some (rv bs)) (h1 : L 1 = some (rv (a 19))) (h2 : L 2 = some (rv (b 0))) (h3 : L 3 = some (rv o)) (h4 : L 4 = some (iv (6 * (i : Int)))) (hc : cells ≤ 1000 + 20 * i) (hs : slots ≤ 20000 + 1500 * i) : LJ p l e s m bs below meth c D G A cells slots 510 L [] (CW a v g R ds ys ++ ((o, al 1 q) :: RW b w h)) := by
  refine S_aload_n X dL_law_510 rfl h1 ?_
  refine S_arg X hX hbl hA hN hi h0 h4 1 (by decide) dL_law_511 dL_law_512 dL_law_514 dL_law_515 dL_law_516 ?_
  refine S_arg X hX hbl hA hN hi h0 h4 2 (by decide) dL_law_517 dL_law_518 dL_law_520 dL_law_521 dL_law_522 ?_
  refine S_if_eq (tgt := 530) X dL_law_523 (by decide) (toInt_inR _) (fun hb => ?_) (fun hb => ?_)
  · refine S_iconst X dL_law_530 ?_
    refine law_C X (qX11_mark l a v g R ds ys (sc xs i 1) (0) hI.pl6 (toInt_inR _) (Or.inl rfl)) lkL_58 rfl (avs := [iv (sc xs i 1), iv (0)]) (rest := []) rfl rfl (nle rfl) ⟨nle rfl, nle rfl⟩ (by omega) (by omega) dL_law_531 (fun z u hq => ?_)
    refine S_pop X dL_law_534 ?_
    refine S_aload_n X dL_law_535 rfl h2 ?_
    refine S_arg X hX hbl hA hN hi h0 h4 1 (by decide) dL_law_536 dL_law_537 dL_law_539 dL_law_540 dL_law_541 ?_
    refine S_arg X hX hbl hA hN hi h0 h4 2 (by decide) dL_law_542 dL_law_543 dL_law_545 dL_law_546 dL_law_547 ?_
    refine S_if_eq (tgt := 555) X dL_law_548 (by decide) (toInt_inR _) (fun _ => ?_) (fun h9 => absurd hb h9)
    refine S_iconst X dL_law_555 ?_
    refine law_R X (qX12_mark l b w h (sc xs i 1) (0) hI.rpl (toInt_inR _) (Or.inl rfl)) lkL_62 rfl (avs := [iv (sc xs i 1), iv (0)]) (rest := []) rfl rfl (nle rfl) ⟨nle rfl, nle rfl⟩ (by omega) (by omega) dL_law_556 (fun z2 u2 hq2 => ?_)
    obtain ⟨hz, v9, g9, R9, ds9, ys9, w9, h9, rfl, rfl, hI9⟩ := pr_mark hI hq hq2
    refine S_pop X dL_law_559 ?_
    refine S_goto (tgt := 1373) X dL_law_560 (by decide) ?_
    exact law_next X hH hI9 h0 h1 h2 h3 h4 (by omega) (by omega)
  · refine S_iconst X dL_law_526 ?_
    refine S_goto (tgt := 531) X dL_law_527 (by decide) ?_
    refine law_C X (qX11_mark l a v g R ds ys (sc xs i 1) (1) hI.pl6 (toInt_inR _) (Or.inr rfl)) lkL_58 rfl (avs := [iv (sc xs i 1), iv (1)]) (rest := []) rfl rfl (nle rfl) ⟨nle rfl, nle rfl⟩ (by omega) (by omega) dL_law_531 (fun z u hq => ?_)
    refine S_pop X dL_law_534 ?_
    refine S_aload_n X dL_law_535 rfl h2 ?_
    refine S_arg X hX hbl hA hN hi h0 h4 1 (by decide) dL_law_536 dL_law_537 dL_law_539 dL_law_540 dL_law_541 ?_
    refine S_arg X hX hbl hA hN hi h0 h4 2 (by decide) dL_law_542 dL_law_543 dL_law_545 dL_law_546 dL_law_547 ?_
    refine S_if_eq (tgt := 555) X dL_law_548 (by decide) (toInt_inR _) (fun h9 => absurd h9 hb) (fun _ => ?_)
    refine S_iconst X dL_law_551 ?_
    refine S_goto (tgt := 556) X dL_law_552 (by decide) ?_
    refine law_R X (qX12_mark l b w h (sc xs i 1) (1) hI.rpl (toInt_inR _) (Or.inr rfl)) lkL_62 rfl (avs := [iv (sc xs i 1), iv (1)]) (rest := []) rfl rfl (nle rfl) ⟨nle rfl, nle rfl⟩ (by omega) (by omega) dL_law_556 (fun z2 u2 hq2 => ?_)
    obtain ⟨hz, v9, g9, R9, ds9, ys9, w9, h9, rfl, rfl, hI9⟩ := pr_mark hI hq hq2
    refine S_pop X dL_law_559 ?_
    refine S_goto (tgt := 1373) X dL_law_560 (by decide) ?_
    exact law_next X hH hI9 h0 h1 h2 h3 h4 (by omega) (by omega)
set_option maxRecDepth 100000 in
set_option maxHeartbeats 2000000 in
theorem law_k8 (X : Cx p s m #[Value.ref bs] meth c D G A code 7 ret RL) (hU : XU A s s.heap) (hlf : l.stackTraces = false) (hX : va_X bs N xs s s.heap) (hbl : bs < s.heap.size) (hA : ¬ A bs) (hN : N ≤ 3072) (hi : 6 * i + 6 ≤ N) (hH : Hd p l e s m bs below meth c D G A a b o (i + 1)) (hI : Inv v g ds ys w h) (h0 : L 0 = some (rv bs)) (h1 : L 1 = some (rv (a 19))) (h2 : L 2 = some (rv (b 0))) (h3 : L 3 = some (rv o)) (h4 : L 4 = some (iv (6 * (i : Int)))) (hc : cells ≤ 1000 + 20 * i) (hs : slots ≤ 20000 + 1500 * i) : LJ p l e s m bs below meth c D G A cells slots 563 L [] (CW a v g R ds ys ++ ((o, al 1 q) :: RW b w h)) := by
  refine S_aload_n X dL_law_563 rfl h1 ?_
  refine S_arg X hX hbl hA hN hi h0 h4 1 (by decide) dL_law_564 dL_law_565 dL_law_567 dL_law_568 dL_law_569 ?_
  refine law_C X (qX11_damp l a v g R ds ys (sc xs i 1) hI.pl6 hI.cmt hI.2.1.1 hI.2.1.2.1 hI.2.1.2.2.1 (toInt_inR _)) lkL_63 rfl (avs := [iv (sc xs i 1)]) (rest := []) rfl rfl (nle rfl) ⟨nle rfl, nle rfl⟩ (by omega) (by omega) dL_law_570 (fun z u hq => ?_)
  refine S_pop X dL_law_573 ?_
  refine S_aload_n X dL_law_574 rfl h2 ?_
  refine S_arg X hX hbl hA hN hi h0 h4 1 (by decide) dL_law_575 dL_law_576 dL_law_578 dL_law_579 dL_law_580 ?_
  refine law_R X (qW12_damp l b (sc xs i 1) (toInt_inR _) hI) lkL_66 rfl (avs := [iv (sc xs i 1)]) (rest := []) rfl rfl (nle rfl) ⟨nle rfl, nle rfl⟩ (by omega) (by omega) dL_law_581 (fun z2 u2 hq2 => ?_)
  obtain ⟨hz, v9, g9, R9, ds9, ys9, w9, h9, rfl, rfl, hI9⟩ := pr_damp hI hq hq2
  refine S_pop X dL_law_584 ?_
  refine S_goto (tgt := 1373) X dL_law_585 (by decide) ?_
  exact law_next X hH hI9 h0 h1 h2 h3 h4 (by omega) (by omega)
set_option maxRecDepth 100000 in
set_option maxHeartbeats 2000000 in
theorem law_k9 (X : Cx p s m #[Value.ref bs] meth c D G A code 7 ret RL) (hU : XU A s s.heap) (hlf : l.stackTraces = false) (hX : va_X bs N xs s s.heap) (hbl : bs < s.heap.size) (hA : ¬ A bs) (hN : N ≤ 3072) (hi : 6 * i + 6 ≤ N) (hH : Hd p l e s m bs below meth c D G A a b o (i + 1)) (hI : Inv v g ds ys w h) (h0 : L 0 = some (rv bs)) (h1 : L 1 = some (rv (a 19))) (h2 : L 2 = some (rv (b 0))) (h3 : L 3 = some (rv o)) (h4 : L 4 = some (iv (6 * (i : Int)))) (hc : cells ≤ 1000 + 20 * i) (hs : slots ≤ 20000 + 1500 * i) : LJ p l e s m bs below meth c D G A cells slots 588 L [] (CW a v g R ds ys ++ ((o, al 1 q) :: RW b w h)) := by
  refine S_aload_n X dL_law_588 rfl h1 ?_
  refine S_arg X hX hbl hA hN hi h0 h4 1 (by decide) dL_law_589 dL_law_590 dL_law_592 dL_law_593 dL_law_594 ?_
  refine law_C X (qX11_day l a v g R ds ys (sc xs i 1) hI.pl6 hI.cdy (okZ_b hI.2.2.1.1) hI.2.1.1 hI.2.1.2.1 hI.2.1.2.2.1 hI.2.2.2.2.1.1 hI.2.2.2.2.1.2.1 hI.ctd (toInt_inR _)) lkL_67 rfl (avs := [iv (sc xs i 1)]) (rest := []) rfl rfl (nle rfl) ⟨nle rfl, nle rfl⟩ (by omega) (by omega) dL_law_595 (fun z u hq => ?_)
  refine S_pop X dL_law_598 ?_
  refine S_aload_n X dL_law_599 rfl h2 ?_
  refine S_arg X hX hbl hA hN hi h0 h4 1 (by decide) dL_law_600 dL_law_601 dL_law_603 dL_law_604 dL_law_605 ?_
  refine law_R X (qW12_day l b (sc xs i 1) (toInt_inR _) hI) lkL_70 rfl (avs := [iv (sc xs i 1)]) (rest := []) rfl rfl (nle rfl) ⟨nle rfl, nle rfl⟩ (by omega) (by omega) dL_law_606 (fun z2 u2 hq2 => ?_)
  obtain ⟨hz, v9, g9, R9, ds9, ys9, w9, h9, rfl, rfl, hI9⟩ := pr_day hI hq hq2
  refine S_pop X dL_law_609 ?_
  refine S_goto (tgt := 1373) X dL_law_610 (by decide) ?_
  exact law_next X hH hI9 h0 h1 h2 h3 h4 (by omega) (by omega)
set_option maxRecDepth 100000 in
set_option maxHeartbeats 2000000 in
theorem law_k10 (X : Cx p s m #[Value.ref bs] meth c D G A code 7 ret RL) (hU : XU A s s.heap) (hlf : l.stackTraces = false) (hX : va_X bs N xs s s.heap) (hbl : bs < s.heap.size) (hA : ¬ A bs) (hN : N ≤ 3072) (hi : 6 * i + 6 ≤ N) (hH : Hd p l e s m bs below meth c D G A a b o (i + 1)) (hI : Inv v g ds ys w h) (h0 : L 0 = some (rv bs)) (h1 : L 1 = some (rv (a 19))) (h2 : L 2 = some (rv (b 0))) (h3 : L 3 = some (rv o)) (h4 : L 4 = some (iv (6 * (i : Int)))) (hc : cells ≤ 1000 + 20 * i) (hs : slots ≤ 20000 + 1500 * i) : LJ p l e s m bs below meth c D G A cells slots 613 L [] (CW a v g R ds ys ++ ((o, al 1 q) :: RW b w h)) := by
  refine S_aload_n X dL_law_613 rfl h1 ?_
  refine law_C X (qX11_undo l a v g R ds ys hI.2.2.2.2.1.1 hI.2.2.2.2.1.2.1) lkL_71 rfl (avs := []) (rest := []) rfl rfl (nle rfl) ⟨nle rfl, nle rfl⟩ (by omega) (by omega) dL_law_614 (fun z u hq => ?_)
  refine S_pop X dL_law_617 ?_
  refine S_aload_n X dL_law_618 rfl h2 ?_
  refine law_R X (qX12_undo l b w h hI.rac) lkL_74 rfl (avs := []) (rest := []) rfl rfl (nle rfl) ⟨nle rfl, nle rfl⟩ (by omega) (by omega) dL_law_619 (fun z2 u2 hq2 => ?_)
  obtain ⟨hz, v9, g9, R9, ds9, ys9, w9, h9, rfl, rfl, hI9⟩ := pr_undo hI hq hq2
  refine S_pop X dL_law_622 ?_
  refine S_goto (tgt := 1373) X dL_law_623 (by decide) ?_
  exact law_next X hH hI9 h0 h1 h2 h3 h4 (by omega) (by omega)
set_option maxRecDepth 100000 in
set_option maxHeartbeats 2000000 in
theorem law_k11 (X : Cx p s m #[Value.ref bs] meth c D G A code 7 ret RL) (hU : XU A s s.heap) (hlf : l.stackTraces = false) (hX : va_X bs N xs s s.heap) (hbl : bs < s.heap.size) (hA : ¬ A bs) (hN : N ≤ 3072) (hi : 6 * i + 6 ≤ N) (hH : Hd p l e s m bs below meth c D G A a b o (i + 1)) (hI : Inv v g ds ys w h) (h0 : L 0 = some (rv bs)) (h1 : L 1 = some (rv (a 19))) (h2 : L 2 = some (rv (b 0))) (h3 : L 3 = some (rv o)) (h4 : L 4 = some (iv (6 * (i : Int)))) (hc : cells ≤ 1000 + 20 * i) (hs : slots ≤ 20000 + 1500 * i) : LJ p l e s m bs below meth c D G A cells slots 626 L [] (CW a v g R ds ys ++ ((o, al 1 q) :: RW b w h)) := by
  refine S_aload_n X dL_law_626 rfl h1 ?_
  refine S_arg X hX hbl hA hN hi h0 h4 1 (by decide) dL_law_627 dL_law_628 dL_law_630 dL_law_631 dL_law_632 ?_
  refine S_arg X hX hbl hA hN hi h0 h4 2 (by decide) dL_law_633 dL_law_634 dL_law_636 dL_law_637 dL_law_638 ?_
  refine S_arg X hX hbl hA hN hi h0 h4 3 (by decide) dL_law_639 dL_law_640 dL_law_642 dL_law_643 dL_law_644 ?_
  refine law_C X (qX11_time l a v g R ds ys (sc xs i 1) (sc xs i 2) (sc xs i 3) hI.2.2.1.1 (toInt_inR _) (toInt_inR _) (toInt_inR _)) lkL_75 rfl (avs := [iv (sc xs i 1), iv (sc xs i 2), iv (sc xs i 3)]) (rest := []) rfl rfl (nle rfl) ⟨nle rfl, nle rfl⟩ (by omega) (by omega) dL_law_645 (fun z u hq => ?_)
  refine S_pop X dL_law_648 ?_
  refine S_aload_n X dL_law_649 rfl h2 ?_
  refine S_arg X hX hbl hA hN hi h0 h4 1 (by decide) dL_law_650 dL_law_651 dL_law_653 dL_law_654 dL_law_655 ?_
  refine S_arg X hX hbl hA hN hi h0 h4 2 (by decide) dL_law_656 dL_law_657 dL_law_659 dL_law_660 dL_law_661 ?_
  refine S_arg X hX hbl hA hN hi h0 h4 3 (by decide) dL_law_662 dL_law_663 dL_law_665 dL_law_666 dL_law_667 ?_
  refine law_R X (qX12_time l b w h (sc xs i 1) (sc xs i 2) (sc xs i 3) hI.rz (toInt_inR _) (toInt_inR _) (toInt_inR _)) lkL_79 rfl (avs := [iv (sc xs i 1), iv (sc xs i 2), iv (sc xs i 3)]) (rest := []) rfl rfl (nle rfl) ⟨nle rfl, nle rfl⟩ (by omega) (by omega) dL_law_668 (fun z2 u2 hq2 => ?_)
  obtain ⟨v9, g9, R9, ds9, ys9, w9, h9, rfl, rfl, hI9⟩ := pr_time hI hq hq2
  refine S_pop X dL_law_671 ?_
  refine S_goto (tgt := 1373) X dL_law_672 (by decide) ?_
  exact law_next X hH hI9 h0 h1 h2 h3 h4 (by omega) (by omega)
set_option maxRecDepth 100000 in
set_option maxHeartbeats 2000000 in
theorem law_k12 (X : Cx p s m #[Value.ref bs] meth c D G A code 7 ret RL) (hU : XU A s s.heap) (hlf : l.stackTraces = false) (hX : va_X bs N xs s s.heap) (hbl : bs < s.heap.size) (hA : ¬ A bs) (hN : N ≤ 3072) (hi : 6 * i + 6 ≤ N) (hH : Hd p l e s m bs below meth c D G A a b o (i + 1)) (hI : Inv v g ds ys w h) (h0 : L 0 = some (rv bs)) (h1 : L 1 = some (rv (a 19))) (h2 : L 2 = some (rv (b 0))) (h3 : L 3 = some (rv o)) (h4 : L 4 = some (iv (6 * (i : Int)))) (hc : cells ≤ 1000 + 20 * i) (hs : slots ≤ 20000 + 1500 * i) : LJ p l e s m bs below meth c D G A cells slots 675 L [] (CW a v g R ds ys ++ ((o, al 1 q) :: RW b w h)) := by
  refine S_aload_n X dL_law_675 rfl h1 ?_
  refine S_arg X hX hbl hA hN hi h0 h4 1 (by decide) dL_law_676 dL_law_677 dL_law_679 dL_law_680 dL_law_681 ?_
  refine law_C X (qX11_spread l a v g R ds ys (sc xs i 1) hI.2.2.1.1 (toInt_inR _)) lkL_80 rfl (avs := [iv (sc xs i 1)]) (rest := []) rfl rfl (nle rfl) ⟨nle rfl, nle rfl⟩ (by omega) (by omega) dL_law_682 (fun z u hq => ?_)
  refine S_pop X dL_law_685 ?_
  refine S_aload_n X dL_law_686 rfl h2 ?_
  refine S_arg X hX hbl hA hN hi h0 h4 1 (by decide) dL_law_687 dL_law_688 dL_law_690 dL_law_691 dL_law_692 ?_
  refine law_R X (qX12_spread l b w h (sc xs i 1) hI.rz (toInt_inR _)) lkL_83 rfl (avs := [iv (sc xs i 1)]) (rest := []) rfl rfl (nle rfl) ⟨nle rfl, nle rfl⟩ (by omega) (by omega) dL_law_693 (fun z2 u2 hq2 => ?_)
  obtain ⟨v9, g9, R9, ds9, ys9, w9, h9, rfl, rfl, hI9⟩ := pr_spread hI hq hq2
  refine S_pop X dL_law_696 ?_
  refine S_goto (tgt := 1373) X dL_law_697 (by decide) ?_
  exact law_next X hH hI9 h0 h1 h2 h3 h4 (by omega) (by omega)
set_option maxRecDepth 100000 in
set_option maxHeartbeats 2000000 in
theorem law_k13 (X : Cx p s m #[Value.ref bs] meth c D G A code 7 ret RL) (hU : XU A s s.heap) (hlf : l.stackTraces = false) (hX : va_X bs N xs s s.heap) (hbl : bs < s.heap.size) (hA : ¬ A bs) (hN : N ≤ 3072) (hi : 6 * i + 6 ≤ N) (hH : Hd p l e s m bs below meth c D G A a b o (i + 1)) (hI : Inv v g ds ys w h) (h0 : L 0 = some (rv bs)) (h1 : L 1 = some (rv (a 19))) (h2 : L 2 = some (rv (b 0))) (h3 : L 3 = some (rv o)) (h4 : L 4 = some (iv (6 * (i : Int)))) (hc : cells ≤ 1000 + 20 * i) (hs : slots ≤ 20000 + 1500 * i) : LJ p l e s m bs below meth c D G A cells slots 700 L [] (CW a v g R ds ys ++ ((o, al 1 q) :: RW b w h)) := by
  refine S_aload_n X dL_law_700 rfl h1 ?_
  refine S_arg X hX hbl hA hN hi h0 h4 1 (by decide) dL_law_701 dL_law_702 dL_law_704 dL_law_705 dL_law_706 ?_
  refine law_C X (qX11_worst l a v g R ds ys (sc xs i 1) hI.2.2.1.1 (toInt_inR _)) lkL_84 rfl (avs := [iv (sc xs i 1)]) (rest := []) rfl rfl (nle rfl) ⟨nle rfl, nle rfl⟩ (by omega) (by omega) dL_law_707 (fun z u hq => ?_)
  refine S_pop X dL_law_710 ?_
  refine S_aload_n X dL_law_711 rfl h2 ?_
  refine S_arg X hX hbl hA hN hi h0 h4 1 (by decide) dL_law_712 dL_law_713 dL_law_715 dL_law_716 dL_law_717 ?_
  refine law_R X (qX12_worst l b w h (sc xs i 1) hI.rz (toInt_inR _)) lkL_87 rfl (avs := [iv (sc xs i 1)]) (rest := []) rfl rfl (nle rfl) ⟨nle rfl, nle rfl⟩ (by omega) (by omega) dL_law_718 (fun z2 u2 hq2 => ?_)
  obtain ⟨v9, g9, R9, ds9, ys9, w9, h9, rfl, rfl, hI9⟩ := pr_worst hI hq hq2
  refine S_pop X dL_law_721 ?_
  refine S_goto (tgt := 1373) X dL_law_722 (by decide) ?_
  exact law_next X hH hI9 h0 h1 h2 h3 h4 (by omega) (by omega)
set_option maxRecDepth 100000 in
set_option maxHeartbeats 2000000 in
theorem law_k14 (X : Cx p s m #[Value.ref bs] meth c D G A code 7 ret RL) (hU : XU A s s.heap) (hlf : l.stackTraces = false) (hX : va_X bs N xs s s.heap) (hbl : bs < s.heap.size) (hA : ¬ A bs) (hN : N ≤ 3072) (hi : 6 * i + 6 ≤ N) (hH : Hd p l e s m bs below meth c D G A a b o (i + 1)) (hI : Inv v g ds ys w h) (h0 : L 0 = some (rv bs)) (h1 : L 1 = some (rv (a 19))) (h2 : L 2 = some (rv (b 0))) (h3 : L 3 = some (rv o)) (h4 : L 4 = some (iv (6 * (i : Int)))) (hc : cells ≤ 1000 + 20 * i) (hs : slots ≤ 20000 + 1500 * i) : LJ p l e s m bs below meth c D G A cells slots 725 L [] (CW a v g R ds ys ++ ((o, al 1 q) :: RW b w h)) := by
  refine S_aload_n X dL_law_725 rfl h1 ?_
  refine law_C X (qX11_parts l a v g R ds ys hI.2.2.1.1 hI.2.2.1.2.1) lkL_88 rfl (avs := []) (rest := []) rfl rfl (nle rfl) ⟨nle rfl, nle rfl⟩ (by omega) (by omega) dL_law_726 (fun z u hq => ?_)
  refine S_pop X dL_law_729 ?_
  refine S_aload_n X dL_law_730 rfl h2 ?_
  refine law_R X (qX12_parts l b w h hI.rz hI.rlim) lkL_91 rfl (avs := []) (rest := []) rfl rfl (nle rfl) ⟨nle rfl, nle rfl⟩ (by omega) (by omega) dL_law_731 (fun z2 u2 hq2 => ?_)
  obtain ⟨v9, g9, R9, ds9, ys9, w9, h9, rfl, rfl, hI9⟩ := pr_parts hI hq hq2
  refine S_pop X dL_law_734 ?_
  refine S_goto (tgt := 1373) X dL_law_735 (by decide) ?_
  exact law_next X hH hI9 h0 h1 h2 h3 h4 (by omega) (by omega)
set_option maxRecDepth 100000 in
set_option maxHeartbeats 2000000 in
theorem law_k15 (X : Cx p s m #[Value.ref bs] meth c D G A code 7 ret RL) (hU : XU A s s.heap) (hlf : l.stackTraces = false) (hX : va_X bs N xs s s.heap) (hbl : bs < s.heap.size) (hA : ¬ A bs) (hN : N ≤ 3072) (hi : 6 * i + 6 ≤ N) (hH : Hd p l e s m bs below meth c D G A a b o (i + 1)) (hI : Inv v g ds ys w h) (h0 : L 0 = some (rv bs)) (h1 : L 1 = some (rv (a 19))) (h2 : L 2 = some (rv (b 0))) (h3 : L 3 = some (rv o)) (h4 : L 4 = some (iv (6 * (i : Int)))) (hc : cells ≤ 1000 + 20 * i) (hs : slots ≤ 20000 + 1500 * i) : LJ p l e s m bs below meth c D G A cells slots 738 L [] (CW a v g R ds ys ++ ((o, al 1 q) :: RW b w h)) := by
  refine S_aload_n X dL_law_738 rfl h1 ?_
  refine S_arg X hX hbl hA hN hi h0 h4 1 (by decide) dL_law_739 dL_law_740 dL_law_742 dL_law_743 dL_law_744 ?_
  refine law_C X (qX11_last l a v g R ds ys (sc xs i 1) hI.2.2.1.1 (toInt_inR _)) lkL_92 rfl (avs := [iv (sc xs i 1)]) (rest := []) rfl rfl (nle rfl) ⟨nle rfl, nle rfl⟩ (by omega) (by omega) dL_law_745 (fun z u hq => ?_)
  refine S_pop X dL_law_748 ?_
  refine S_aload_n X dL_law_749 rfl h2 ?_
  refine S_arg X hX hbl hA hN hi h0 h4 1 (by decide) dL_law_750 dL_law_751 dL_law_753 dL_law_754 dL_law_755 ?_
  refine law_R X (qX12_last l b w h (sc xs i 1) hI.rz (toInt_inR _)) lkL_95 rfl (avs := [iv (sc xs i 1)]) (rest := []) rfl rfl (nle rfl) ⟨nle rfl, nle rfl⟩ (by omega) (by omega) dL_law_756 (fun z2 u2 hq2 => ?_)
  obtain ⟨v9, g9, R9, ds9, ys9, w9, h9, rfl, rfl, hI9⟩ := pr_last hI hq hq2
  refine S_pop X dL_law_759 ?_
  refine S_goto (tgt := 1373) X dL_law_760 (by decide) ?_
  exact law_next X hH hI9 h0 h1 h2 h3 h4 (by omega) (by omega)
set_option maxRecDepth 100000 in
set_option maxHeartbeats 2000000 in
theorem law_k16 (X : Cx p s m #[Value.ref bs] meth c D G A code 7 ret RL) (hU : XU A s s.heap) (hlf : l.stackTraces = false) (hX : va_X bs N xs s s.heap) (hbl : bs < s.heap.size) (hA : ¬ A bs) (hN : N ≤ 3072) (hi : 6 * i + 6 ≤ N) (hH : Hd p l e s m bs below meth c D G A a b o (i + 1)) (hI : Inv v g ds ys w h) (h0 : L 0 = some (rv bs)) (h1 : L 1 = some (rv (a 19))) (h2 : L 2 = some (rv (b 0))) (h3 : L 3 = some (rv o)) (h4 : L 4 = some (iv (6 * (i : Int)))) (hc : cells ≤ 1000 + 20 * i) (hs : slots ≤ 20000 + 1500 * i) : LJ p l e s m bs below meth c D G A cells slots 763 L [] (CW a v g R ds ys ++ ((o, al 1 q) :: RW b w h)) := by
  refine S_aload_n X dL_law_763 rfl h1 ?_
  refine S_arg X hX hbl hA hN hi h0 h4 1 (by decide) dL_law_764 dL_law_765 dL_law_767 dL_law_768 dL_law_769 ?_
  refine law_C X (qX11_settle l a v g R ds ys (sc xs i 1) hI.2.2.1.1 (toInt_inR _)) lkL_96 rfl (avs := [iv (sc xs i 1)]) (rest := []) rfl rfl (nle rfl) ⟨nle rfl, nle rfl⟩ (by omega) (by omega) dL_law_770 (fun z u hq => ?_)
  refine S_pop X dL_law_773 ?_
  refine S_aload_n X dL_law_774 rfl h2 ?_
  refine S_arg X hX hbl hA hN hi h0 h4 1 (by decide) dL_law_775 dL_law_776 dL_law_778 dL_law_779 dL_law_780 ?_
  refine law_R X (qX12_settle l b w h (sc xs i 1) hI.rz (toInt_inR _)) lkL_99 rfl (avs := [iv (sc xs i 1)]) (rest := []) rfl rfl (nle rfl) ⟨nle rfl, nle rfl⟩ (by omega) (by omega) dL_law_781 (fun z2 u2 hq2 => ?_)
  obtain ⟨v9, g9, R9, ds9, ys9, w9, h9, rfl, rfl, hI9⟩ := pr_settle hI hq hq2
  refine S_pop X dL_law_784 ?_
  refine S_goto (tgt := 1373) X dL_law_785 (by decide) ?_
  exact law_next X hH hI9 h0 h1 h2 h3 h4 (by omega) (by omega)
set_option maxRecDepth 100000 in
set_option maxHeartbeats 2000000 in
theorem law_k17 (X : Cx p s m #[Value.ref bs] meth c D G A code 7 ret RL) (hU : XU A s s.heap) (hlf : l.stackTraces = false) (hX : va_X bs N xs s s.heap) (hbl : bs < s.heap.size) (hA : ¬ A bs) (hN : N ≤ 3072) (hi : 6 * i + 6 ≤ N) (hH : Hd p l e s m bs below meth c D G A a b o (i + 1)) (hI : Inv v g ds ys w h) (h0 : L 0 = some (rv bs)) (h1 : L 1 = some (rv (a 19))) (h2 : L 2 = some (rv (b 0))) (h3 : L 3 = some (rv o)) (h4 : L 4 = some (iv (6 * (i : Int)))) (hc : cells ≤ 1000 + 20 * i) (hs : slots ≤ 20000 + 1500 * i) : LJ p l e s m bs below meth c D G A cells slots 788 L [] (CW a v g R ds ys ++ ((o, al 1 q) :: RW b w h)) := by
  refine S_aload_n X dL_law_788 rfl h1 ?_
  refine S_arg X hX hbl hA hN hi h0 h4 1 (by decide) dL_law_789 dL_law_790 dL_law_792 dL_law_793 dL_law_794 ?_
  refine law_C X (qX11_ring l a v g R ds ys (sc xs i 1) hI.2.2.1.1 (toInt_inR _)) lkL_100 rfl (avs := [iv (sc xs i 1)]) (rest := []) rfl rfl (nle rfl) ⟨nle rfl, nle rfl⟩ (by omega) (by omega) dL_law_795 (fun z u hq => ?_)
  refine S_pop X dL_law_798 ?_
  refine S_aload_n X dL_law_799 rfl h2 ?_
  refine S_arg X hX hbl hA hN hi h0 h4 1 (by decide) dL_law_800 dL_law_801 dL_law_803 dL_law_804 dL_law_805 ?_
  refine law_R X (qX12_ring l b w h (sc xs i 1) hI.rz (toInt_inR _)) lkL_103 rfl (avs := [iv (sc xs i 1)]) (rest := []) rfl rfl (nle rfl) ⟨nle rfl, nle rfl⟩ (by omega) (by omega) dL_law_806 (fun z2 u2 hq2 => ?_)
  obtain ⟨v9, g9, R9, ds9, ys9, w9, h9, rfl, rfl, hI9⟩ := pr_ring hI hq hq2
  refine S_pop X dL_law_809 ?_
  refine S_goto (tgt := 1373) X dL_law_810 (by decide) ?_
  exact law_next X hH hI9 h0 h1 h2 h3 h4 (by omega) (by omega)
set_option maxRecDepth 100000 in
set_option maxHeartbeats 2000000 in
theorem law_k18 (X : Cx p s m #[Value.ref bs] meth c D G A code 7 ret RL) (hU : XU A s s.heap) (hlf : l.stackTraces = false) (hX : va_X bs N xs s s.heap) (hbl : bs < s.heap.size) (hA : ¬ A bs) (hN : N ≤ 3072) (hi : 6 * i + 6 ≤ N) (hH : Hd p l e s m bs below meth c D G A a b o (i + 1)) (hI : Inv v g ds ys w h) (h0 : L 0 = some (rv bs)) (h1 : L 1 = some (rv (a 19))) (h2 : L 2 = some (rv (b 0))) (h3 : L 3 = some (rv o)) (h4 : L 4 = some (iv (6 * (i : Int)))) (hc : cells ≤ 1000 + 20 * i) (hs : slots ≤ 20000 + 1500 * i) : LJ p l e s m bs below meth c D G A cells slots 813 L [] (CW a v g R ds ys ++ ((o, al 1 q) :: RW b w h)) := by
  refine S_aload_n X dL_law_813 rfl h1 ?_
  refine S_arg X hX hbl hA hN hi h0 h4 1 (by decide) dL_law_814 dL_law_815 dL_law_817 dL_law_818 dL_law_819 ?_
  refine law_C X (qX11_head l a v g R ds ys (sc xs i 1) hI.2.2.1.1 (toInt_inR _)) lkL_104 rfl (avs := [iv (sc xs i 1)]) (rest := []) rfl rfl (nle rfl) ⟨nle rfl, nle rfl⟩ (by omega) (by omega) dL_law_820 (fun z u hq => ?_)
  refine S_pop X dL_law_823 ?_
  refine S_aload_n X dL_law_824 rfl h2 ?_
  refine S_arg X hX hbl hA hN hi h0 h4 1 (by decide) dL_law_825 dL_law_826 dL_law_828 dL_law_829 dL_law_830 ?_
  refine law_R X (qX12_head l b w h (sc xs i 1) hI.rz (toInt_inR _)) lkL_107 rfl (avs := [iv (sc xs i 1)]) (rest := []) rfl rfl (nle rfl) ⟨nle rfl, nle rfl⟩ (by omega) (by omega) dL_law_831 (fun z2 u2 hq2 => ?_)
  obtain ⟨v9, g9, R9, ds9, ys9, w9, h9, rfl, rfl, hI9⟩ := pr_head hI hq hq2
  refine S_pop X dL_law_834 ?_
  refine S_goto (tgt := 1373) X dL_law_835 (by decide) ?_
  exact law_next X hH hI9 h0 h1 h2 h3 h4 (by omega) (by omega)
set_option maxRecDepth 100000 in
set_option maxHeartbeats 2000000 in
theorem law_k19 (X : Cx p s m #[Value.ref bs] meth c D G A code 7 ret RL) (hU : XU A s s.heap) (hlf : l.stackTraces = false) (hX : va_X bs N xs s s.heap) (hbl : bs < s.heap.size) (hA : ¬ A bs) (hN : N ≤ 3072) (hi : 6 * i + 6 ≤ N) (hH : Hd p l e s m bs below meth c D G A a b o (i + 1)) (hI : Inv v g ds ys w h) (h0 : L 0 = some (rv bs)) (h1 : L 1 = some (rv (a 19))) (h2 : L 2 = some (rv (b 0))) (h3 : L 3 = some (rv o)) (h4 : L 4 = some (iv (6 * (i : Int)))) (hc : cells ≤ 1000 + 20 * i) (hs : slots ≤ 20000 + 1500 * i) : LJ p l e s m bs below meth c D G A cells slots 838 L [] (CW a v g R ds ys ++ ((o, al 1 q) :: RW b w h)) := by
  refine S_aload_n X dL_law_838 rfl h1 ?_
  refine S_arg X hX hbl hA hN hi h0 h4 1 (by decide) dL_law_839 dL_law_840 dL_law_842 dL_law_843 dL_law_844 ?_
  refine law_C X (qX11_week l a v g R ds ys (sc xs i 1) hI.2.2.1.1 (toInt_inR _) hI.cdy hI.2.1.1 hI.2.1.2.1 hI.2.1.2.2.1 hI.ctd hI.2.2.2.2.2.2.2.1 hI.2.2.2.2.2.2.2.2.1 hI.2.2.2.2.2.2.2.2.2) lkL_108 rfl (avs := [iv (sc xs i 1)]) (rest := []) rfl rfl (nle rfl) ⟨nle rfl, nle rfl⟩ (by omega) (by omega) dL_law_845 (fun z u hq => ?_)
  refine S_pop X dL_law_848 ?_
  refine S_aload_n X dL_law_849 rfl h2 ?_
  refine S_arg X hX hbl hA hN hi h0 h4 1 (by decide) dL_law_850 dL_law_851 dL_law_853 dL_law_854 dL_law_855 ?_
  refine law_R X (qW12_week l b (sc xs i 1) (toInt_inR _) hI) lkL_111 rfl (avs := [iv (sc xs i 1)]) (rest := []) rfl rfl (nle rfl) ⟨nle rfl, nle rfl⟩ (by omega) (by omega) dL_law_856 (fun z2 u2 hq2 => ?_)
  obtain ⟨v9, g9, R9, ds9, ys9, w9, h9, rfl, rfl, hI9⟩ := pr_week hI hq hq2
  refine S_pop X dL_law_859 ?_
  refine S_goto (tgt := 1373) X dL_law_860 (by decide) ?_
  exact law_next X hH hI9 h0 h1 h2 h3 h4 (by omega) (by omega)
set_option maxRecDepth 100000 in
set_option maxHeartbeats 2000000 in
theorem law_k20 (X : Cx p s m #[Value.ref bs] meth c D G A code 7 ret RL) (hU : XU A s s.heap) (hlf : l.stackTraces = false) (hX : va_X bs N xs s s.heap) (hbl : bs < s.heap.size) (hA : ¬ A bs) (hN : N ≤ 3072) (hi : 6 * i + 6 ≤ N) (hH : Hd p l e s m bs below meth c D G A a b o (i + 1)) (hI : Inv v g ds ys w h) (h0 : L 0 = some (rv bs)) (h1 : L 1 = some (rv (a 19))) (h2 : L 2 = some (rv (b 0))) (h3 : L 3 = some (rv o)) (h4 : L 4 = some (iv (6 * (i : Int)))) (hc : cells ≤ 1000 + 20 * i) (hs : slots ≤ 20000 + 1500 * i) : LJ p l e s m bs below meth c D G A cells slots 863 L [] (CW a v g R ds ys ++ ((o, al 1 q) :: RW b w h)) := by
  refine S_aload_n X dL_law_863 rfl h1 ?_
  refine S_arg X hX hbl hA hN hi h0 h4 1 (by decide) dL_law_864 dL_law_865 dL_law_867 dL_law_868 dL_law_869 ?_
  refine S_arg X hX hbl hA hN hi h0 h4 2 (by decide) dL_law_870 dL_law_871 dL_law_873 dL_law_874 dL_law_875 ?_
  refine law_C X (qX11_leader l a v g R ds ys (sc xs i 1) (sc xs i 2) hI.2.2.1.1 (toInt_inR _) (toInt_inR _)) lkL_112 rfl (avs := [iv (sc xs i 1), iv (sc xs i 2)]) (rest := []) rfl rfl (nle rfl) ⟨nle rfl, nle rfl⟩ (by omega) (by omega) dL_law_876 (fun z u hq => ?_)
  refine S_pop X dL_law_879 ?_
  refine S_aload_n X dL_law_880 rfl h2 ?_
  refine S_arg X hX hbl hA hN hi h0 h4 1 (by decide) dL_law_881 dL_law_882 dL_law_884 dL_law_885 dL_law_886 ?_
  refine S_arg X hX hbl hA hN hi h0 h4 2 (by decide) dL_law_887 dL_law_888 dL_law_890 dL_law_891 dL_law_892 ?_
  refine law_R X (qX12_leader l b w h (sc xs i 1) (sc xs i 2) hI.rz (toInt_inR _) (toInt_inR _)) lkL_115 rfl (avs := [iv (sc xs i 1), iv (sc xs i 2)]) (rest := []) rfl rfl (nle rfl) ⟨nle rfl, nle rfl⟩ (by omega) (by omega) dL_law_893 (fun z2 u2 hq2 => ?_)
  obtain ⟨v9, g9, R9, ds9, ys9, w9, h9, rfl, rfl, hI9⟩ := pr_leader hI hq hq2
  refine S_pop X dL_law_896 ?_
  refine S_goto (tgt := 1373) X dL_law_897 (by decide) ?_
  exact law_next X hH hI9 h0 h1 h2 h3 h4 (by omega) (by omega)
set_option maxRecDepth 100000 in
set_option maxHeartbeats 2000000 in
theorem law_k21 (X : Cx p s m #[Value.ref bs] meth c D G A code 7 ret RL) (hU : XU A s s.heap) (hlf : l.stackTraces = false) (hX : va_X bs N xs s s.heap) (hbl : bs < s.heap.size) (hA : ¬ A bs) (hN : N ≤ 3072) (hi : 6 * i + 6 ≤ N) (hH : Hd p l e s m bs below meth c D G A a b o (i + 1)) (hI : Inv v g ds ys w h) (h0 : L 0 = some (rv bs)) (h1 : L 1 = some (rv (a 19))) (h2 : L 2 = some (rv (b 0))) (h3 : L 3 = some (rv o)) (h4 : L 4 = some (iv (6 * (i : Int)))) (hc : cells ≤ 1000 + 20 * i) (hs : slots ≤ 20000 + 1500 * i) : LJ p l e s m bs below meth c D G A cells slots 900 L [] (CW a v g R ds ys ++ ((o, al 1 q) :: RW b w h)) := by
  refine S_aload_n X dL_law_900 rfl h1 ?_
  refine S_arg X hX hbl hA hN hi h0 h4 1 (by decide) dL_law_901 dL_law_902 dL_law_904 dL_law_905 dL_law_906 ?_
  refine law_C X (qX11_marks l a v g R ds ys (sc xs i 1) hI.2.2.1.1 (toInt_inR _) hI.2.2.1.2.1 hI.2.2.2.2.2.2.1.1 hI.2.2.2.2.2.2.1.2.1 hI.2.2.2.2.2.2.1.2.2.1 hI.2.2.2.2.2.2.1.2.2.2) lkL_116 rfl (avs := [iv (sc xs i 1)]) (rest := []) rfl rfl (nle rfl) ⟨nle rfl, nle rfl⟩ (by omega) (by omega) dL_law_907 (fun z u hq => ?_)
  refine S_pop X dL_law_910 ?_
  refine S_aload_n X dL_law_911 rfl h2 ?_
  refine S_arg X hX hbl hA hN hi h0 h4 1 (by decide) dL_law_912 dL_law_913 dL_law_915 dL_law_916 dL_law_917 ?_
  refine law_R X (qX12_marks l b w h (sc xs i 1) hI.rz hI.rlim (toInt_inR _)) lkL_119 rfl (avs := [iv (sc xs i 1)]) (rest := []) rfl rfl (nle rfl) ⟨nle rfl, nle rfl⟩ (by omega) (by omega) dL_law_918 (fun z2 u2 hq2 => ?_)
  obtain ⟨v9, g9, R9, ds9, ys9, w9, h9, rfl, rfl, hI9⟩ := pr_marks hI hq hq2
  refine S_pop X dL_law_921 ?_
  refine S_goto (tgt := 1373) X dL_law_922 (by decide) ?_
  exact law_next X hH hI9 h0 h1 h2 h3 h4 (by omega) (by omega)
set_option maxRecDepth 100000 in
set_option maxHeartbeats 2000000 in
theorem law_k22 (X : Cx p s m #[Value.ref bs] meth c D G A code 7 ret RL) (hU : XU A s s.heap) (hlf : l.stackTraces = false) (hX : va_X bs N xs s s.heap) (hbl : bs < s.heap.size) (hA : ¬ A bs) (hN : N ≤ 3072) (hi : 6 * i + 6 ≤ N) (hH : Hd p l e s m bs below meth c D G A a b o (i + 1)) (hI : Inv v g ds ys w h) (h0 : L 0 = some (rv bs)) (h1 : L 1 = some (rv (a 19))) (h2 : L 2 = some (rv (b 0))) (h3 : L 3 = some (rv o)) (h4 : L 4 = some (iv (6 * (i : Int)))) (hc : cells ≤ 1000 + 20 * i) (hs : slots ≤ 20000 + 1500 * i) : LJ p l e s m bs below meth c D G A cells slots 925 L [] (CW a v g R ds ys ++ ((o, al 1 q) :: RW b w h)) := by
  refine S_aload_n X dL_law_925 rfl h1 ?_
  refine S_arg X hX hbl hA hN hi h0 h4 1 (by decide) dL_law_926 dL_law_927 dL_law_929 dL_law_930 dL_law_931 ?_
  refine S_arg X hX hbl hA hN hi h0 h4 2 (by decide) dL_law_932 dL_law_933 dL_law_935 dL_law_936 dL_law_937 ?_
  refine law_C X (qX11_odds l a v g R ds ys (sc xs i 1) (sc xs i 2) hI.2.2.1.1 (toInt_inR _) (toInt_inR _) hI.cdy) lkL_120 rfl (avs := [iv (sc xs i 1), iv (sc xs i 2)]) (rest := []) rfl rfl (nle rfl) ⟨nle rfl, nle rfl⟩ (by omega) (by omega) dL_law_938 (fun z u hq => ?_)
  refine S_pop X dL_law_941 ?_
  refine S_aload_n X dL_law_942 rfl h2 ?_
  refine S_arg X hX hbl hA hN hi h0 h4 1 (by decide) dL_law_943 dL_law_944 dL_law_946 dL_law_947 dL_law_948 ?_
  refine S_arg X hX hbl hA hN hi h0 h4 2 (by decide) dL_law_949 dL_law_950 dL_law_952 dL_law_953 dL_law_954 ?_
  refine law_R X (qW12_odds l b (sc xs i 1) (sc xs i 2) (toInt_inR _) (toInt_inR _) hI) lkL_123 rfl (avs := [iv (sc xs i 1), iv (sc xs i 2)]) (rest := []) rfl rfl (nle rfl) ⟨nle rfl, nle rfl⟩ (by omega) (by omega) dL_law_955 (fun z2 u2 hq2 => ?_)
  obtain ⟨v9, g9, R9, ds9, ys9, w9, h9, rfl, rfl, hI9⟩ := pr_odds hI hq hq2
  refine S_pop X dL_law_958 ?_
  refine S_goto (tgt := 1373) X dL_law_959 (by decide) ?_
  exact law_next X hH hI9 h0 h1 h2 h3 h4 (by omega) (by omega)
set_option maxRecDepth 100000 in
set_option maxHeartbeats 2000000 in
theorem law_k23 (X : Cx p s m #[Value.ref bs] meth c D G A code 7 ret RL) (hU : XU A s s.heap) (hlf : l.stackTraces = false) (hX : va_X bs N xs s s.heap) (hbl : bs < s.heap.size) (hA : ¬ A bs) (hN : N ≤ 3072) (hi : 6 * i + 6 ≤ N) (hH : Hd p l e s m bs below meth c D G A a b o (i + 1)) (hI : Inv v g ds ys w h) (h0 : L 0 = some (rv bs)) (h1 : L 1 = some (rv (a 19))) (h2 : L 2 = some (rv (b 0))) (h3 : L 3 = some (rv o)) (h4 : L 4 = some (iv (6 * (i : Int)))) (hc : cells ≤ 1000 + 20 * i) (hs : slots ≤ 20000 + 1500 * i) : LJ p l e s m bs below meth c D G A cells slots 962 L [] (CW a v g R ds ys ++ ((o, al 1 q) :: RW b w h)) := by
  refine S_aload_n X dL_law_962 rfl h1 ?_
  refine S_arg X hX hbl hA hN hi h0 h4 1 (by decide) dL_law_963 dL_law_964 dL_law_966 dL_law_967 dL_law_968 ?_
  refine law_C X (qX11_paid l a v g R ds ys (sc xs i 1) hI.2.2.1.1 (toInt_inR _)) lkL_124 rfl (avs := [iv (sc xs i 1)]) (rest := []) rfl rfl (nle rfl) ⟨nle rfl, nle rfl⟩ (by omega) (by omega) dL_law_969 (fun z u hq => ?_)
  refine S_pop X dL_law_972 ?_
  refine S_aload_n X dL_law_973 rfl h2 ?_
  refine S_arg X hX hbl hA hN hi h0 h4 1 (by decide) dL_law_974 dL_law_975 dL_law_977 dL_law_978 dL_law_979 ?_
  refine law_R X (qX12_paid l b w h (sc xs i 1) hI.rz (toInt_inR _)) lkL_127 rfl (avs := [iv (sc xs i 1)]) (rest := []) rfl rfl (nle rfl) ⟨nle rfl, nle rfl⟩ (by omega) (by omega) dL_law_980 (fun z2 u2 hq2 => ?_)
  obtain ⟨v9, g9, R9, ds9, ys9, w9, h9, rfl, rfl, hI9⟩ := pr_paid hI hq hq2
  refine S_pop X dL_law_983 ?_
  refine S_goto (tgt := 1373) X dL_law_984 (by decide) ?_
  exact law_next X hH hI9 h0 h1 h2 h3 h4 (by omega) (by omega)
set_option maxRecDepth 100000 in
set_option maxHeartbeats 2000000 in
theorem law_k24 (X : Cx p s m #[Value.ref bs] meth c D G A code 7 ret RL) (hU : XU A s s.heap) (hlf : l.stackTraces = false) (hX : va_X bs N xs s s.heap) (hbl : bs < s.heap.size) (hA : ¬ A bs) (hN : N ≤ 3072) (hi : 6 * i + 6 ≤ N) (hH : Hd p l e s m bs below meth c D G A a b o (i + 1)) (hI : Inv v g ds ys w h) (h0 : L 0 = some (rv bs)) (h1 : L 1 = some (rv (a 19))) (h2 : L 2 = some (rv (b 0))) (h3 : L 3 = some (rv o)) (h4 : L 4 = some (iv (6 * (i : Int)))) (hc : cells ≤ 1000 + 20 * i) (hs : slots ≤ 20000 + 1500 * i) : LJ p l e s m bs below meth c D G A cells slots 987 L [] (CW a v g R ds ys ++ ((o, al 1 q) :: RW b w h)) := by
  refine S_aload_n X dL_law_987 rfl h1 ?_
  refine S_arg X hX hbl hA hN hi h0 h4 1 (by decide) dL_law_988 dL_law_989 dL_law_991 dL_law_992 dL_law_993 ?_
  refine S_arg X hX hbl hA hN hi h0 h4 2 (by decide) dL_law_994 dL_law_995 dL_law_997 dL_law_998 dL_law_999 ?_
  refine S_arg X hX hbl hA hN hi h0 h4 3 (by decide) dL_law_1000 dL_law_1001 dL_law_1003 dL_law_1004 dL_law_1005 ?_
  refine law_C X (qX11_roll l a v g R ds ys (sc xs i 1) (sc xs i 2) (sc xs i 3) hI.pl6 ⟨hI.cro.1, hI.cro.2.1⟩ (toInt_inR _) (toInt_inR _) (toInt_inR _)) lkL_128 rfl (avs := [iv (sc xs i 1), iv (sc xs i 2), iv (sc xs i 3)]) (rest := []) rfl rfl (nle rfl) ⟨nle rfl, nle rfl⟩ (by omega) (by omega) dL_law_1006 (fun z u hq => ?_)
  refine S_pop X dL_law_1009 ?_
  refine S_aload_n X dL_law_1010 rfl h2 ?_
  refine S_arg X hX hbl hA hN hi h0 h4 1 (by decide) dL_law_1011 dL_law_1012 dL_law_1014 dL_law_1015 dL_law_1016 ?_
  refine S_arg X hX hbl hA hN hi h0 h4 2 (by decide) dL_law_1017 dL_law_1018 dL_law_1020 dL_law_1021 dL_law_1022 ?_
  refine S_arg X hX hbl hA hN hi h0 h4 3 (by decide) dL_law_1023 dL_law_1024 dL_law_1026 dL_law_1027 dL_law_1028 ?_
  refine law_R X (qX12_roll l b w h (sc xs i 1) (sc xs i 2) (sc xs i 3) hI.rpl hI.rrl (toInt_inR _) (toInt_inR _) (toInt_inR _)) lkL_131 rfl (avs := [iv (sc xs i 1), iv (sc xs i 2), iv (sc xs i 3)]) (rest := []) rfl rfl (nle rfl) ⟨nle rfl, nle rfl⟩ (by omega) (by omega) dL_law_1029 (fun z2 u2 hq2 => ?_)
  obtain ⟨hz, v9, g9, R9, ds9, ys9, w9, h9, rfl, rfl, hI9⟩ := pr_roll hI hq hq2
  refine S_pop X dL_law_1032 ?_
  refine S_goto (tgt := 1373) X dL_law_1033 (by decide) ?_
  exact law_next X hH hI9 h0 h1 h2 h3 h4 (by omega) (by omega)
set_option maxRecDepth 100000 in
set_option maxHeartbeats 2000000 in
theorem law_k25 (X : Cx p s m #[Value.ref bs] meth c D G A code 7 ret RL) (hU : XU A s s.heap) (hlf : l.stackTraces = false) (hX : va_X bs N xs s s.heap) (hbl : bs < s.heap.size) (hA : ¬ A bs) (hN : N ≤ 3072) (hi : 6 * i + 6 ≤ N) (hH : Hd p l e s m bs below meth c D G A a b o (i + 1)) (hI : Inv v g ds ys w h) (h0 : L 0 = some (rv bs)) (h1 : L 1 = some (rv (a 19))) (h2 : L 2 = some (rv (b 0))) (h3 : L 3 = some (rv o)) (h4 : L 4 = some (iv (6 * (i : Int)))) (hc : cells ≤ 1000 + 20 * i) (hs : slots ≤ 20000 + 1500 * i) : LJ p l e s m bs below meth c D G A cells slots 1036 L [] (CW a v g R ds ys ++ ((o, al 1 q) :: RW b w h)) := by
  refine S_aload_n X dL_law_1036 rfl h1 ?_
  refine S_arg X hX hbl hA hN hi h0 h4 1 (by decide) dL_law_1037 dL_law_1038 dL_law_1040 dL_law_1041 dL_law_1042 ?_
  refine law_C X (qX11_fits l a v g R ds ys (sc xs i 1) hI.2.2.1.1 (toInt_inR _) hI.cro) lkL_132 rfl (avs := [iv (sc xs i 1)]) (rest := []) rfl rfl (nle rfl) ⟨nle rfl, nle rfl⟩ (by omega) (by omega) dL_law_1043 (fun z u hq => ?_)
  refine S_pop X dL_law_1046 ?_
  refine S_aload_n X dL_law_1047 rfl h2 ?_
  refine S_arg X hX hbl hA hN hi h0 h4 1 (by decide) dL_law_1048 dL_law_1049 dL_law_1051 dL_law_1052 dL_law_1053 ?_
  refine law_R X (qX12_fits l b w h (sc xs i 1) hI.rz (toInt_inR _) hI.rro) lkL_135 rfl (avs := [iv (sc xs i 1)]) (rest := []) rfl rfl (nle rfl) ⟨nle rfl, nle rfl⟩ (by omega) (by omega) dL_law_1054 (fun z2 u2 hq2 => ?_)
  obtain ⟨v9, g9, R9, ds9, ys9, w9, h9, rfl, rfl, hI9⟩ := pr_fits hI hq hq2
  refine S_pop X dL_law_1057 ?_
  refine S_goto (tgt := 1373) X dL_law_1058 (by decide) ?_
  exact law_next X hH hI9 h0 h1 h2 h3 h4 (by omega) (by omega)
set_option maxRecDepth 100000 in
set_option maxHeartbeats 2000000 in
theorem law_k26 (X : Cx p s m #[Value.ref bs] meth c D G A code 7 ret RL) (hU : XU A s s.heap) (hlf : l.stackTraces = false) (hX : va_X bs N xs s s.heap) (hbl : bs < s.heap.size) (hA : ¬ A bs) (hN : N ≤ 3072) (hi : 6 * i + 6 ≤ N) (hH : Hd p l e s m bs below meth c D G A a b o (i + 1)) (hI : Inv v g ds ys w h) (h0 : L 0 = some (rv bs)) (h1 : L 1 = some (rv (a 19))) (h2 : L 2 = some (rv (b 0))) (h3 : L 3 = some (rv o)) (h4 : L 4 = some (iv (6 * (i : Int)))) (hc : cells ≤ 1000 + 20 * i) (hs : slots ≤ 20000 + 1500 * i) : LJ p l e s m bs below meth c D G A cells slots 1061 L [] (CW a v g R ds ys ++ ((o, al 1 q) :: RW b w h)) := by
  refine S_aload_n X dL_law_1061 rfl h1 ?_
  refine S_arg X hX hbl hA hN hi h0 h4 1 (by decide) dL_law_1062 dL_law_1063 dL_law_1065 dL_law_1066 dL_law_1067 ?_
  refine law_C X (qX11_deaf l a v g R ds ys (sc xs i 1) hI.2.2.1.1 (toInt_inR _)) lkL_136 rfl (avs := [iv (sc xs i 1)]) (rest := []) rfl rfl (nle rfl) ⟨nle rfl, nle rfl⟩ (by omega) (by omega) dL_law_1068 (fun z u hq => ?_)
  refine S_pop X dL_law_1071 ?_
  refine S_aload_n X dL_law_1072 rfl h2 ?_
  refine S_arg X hX hbl hA hN hi h0 h4 1 (by decide) dL_law_1073 dL_law_1074 dL_law_1076 dL_law_1077 dL_law_1078 ?_
  refine law_R X (qX12_deaf l b w h (sc xs i 1) hI.rz (toInt_inR _)) lkL_139 rfl (avs := [iv (sc xs i 1)]) (rest := []) rfl rfl (nle rfl) ⟨nle rfl, nle rfl⟩ (by omega) (by omega) dL_law_1079 (fun z2 u2 hq2 => ?_)
  obtain ⟨v9, g9, R9, ds9, ys9, w9, h9, rfl, rfl, hI9⟩ := pr_deaf hI hq hq2
  refine S_pop X dL_law_1082 ?_
  refine S_goto (tgt := 1373) X dL_law_1083 (by decide) ?_
  exact law_next X hH hI9 h0 h1 h2 h3 h4 (by omega) (by omega)
set_option maxRecDepth 100000 in
set_option maxHeartbeats 2000000 in
theorem law_k27 (X : Cx p s m #[Value.ref bs] meth c D G A code 7 ret RL) (hU : XU A s s.heap) (hlf : l.stackTraces = false) (hX : va_X bs N xs s s.heap) (hbl : bs < s.heap.size) (hA : ¬ A bs) (hN : N ≤ 3072) (hi : 6 * i + 6 ≤ N) (hH : Hd p l e s m bs below meth c D G A a b o (i + 1)) (hI : Inv v g ds ys w h) (h0 : L 0 = some (rv bs)) (h1 : L 1 = some (rv (a 19))) (h2 : L 2 = some (rv (b 0))) (h3 : L 3 = some (rv o)) (h4 : L 4 = some (iv (6 * (i : Int)))) (hc : cells ≤ 1000 + 20 * i) (hs : slots ≤ 20000 + 1500 * i) : LJ p l e s m bs below meth c D G A cells slots 1086 L [] (CW a v g R ds ys ++ ((o, al 1 q) :: RW b w h)) := by
  refine S_aload_n X dL_law_1086 rfl h1 ?_
  refine S_arg X hX hbl hA hN hi h0 h4 1 (by decide) dL_law_1087 dL_law_1088 dL_law_1090 dL_law_1091 dL_law_1092 ?_
  refine law_C X (qX11_echoes l a v g R ds ys (sc xs i 1) hI.2.2.1.1 (toInt_inR _)) lkL_140 rfl (avs := [iv (sc xs i 1)]) (rest := []) rfl rfl (nle rfl) ⟨nle rfl, nle rfl⟩ (by omega) (by omega) dL_law_1093 (fun z u hq => ?_)
  refine S_pop X dL_law_1096 ?_
  refine S_aload_n X dL_law_1097 rfl h2 ?_
  refine S_arg X hX hbl hA hN hi h0 h4 1 (by decide) dL_law_1098 dL_law_1099 dL_law_1101 dL_law_1102 dL_law_1103 ?_
  refine law_R X (qX12_echoes l b w h (sc xs i 1) hI.rz (toInt_inR _)) lkL_143 rfl (avs := [iv (sc xs i 1)]) (rest := []) rfl rfl (nle rfl) ⟨nle rfl, nle rfl⟩ (by omega) (by omega) dL_law_1104 (fun z2 u2 hq2 => ?_)
  obtain ⟨v9, g9, R9, ds9, ys9, w9, h9, rfl, rfl, hI9⟩ := pr_echoes hI hq hq2
  refine S_pop X dL_law_1107 ?_
  refine S_goto (tgt := 1373) X dL_law_1108 (by decide) ?_
  exact law_next X hH hI9 h0 h1 h2 h3 h4 (by omega) (by omega)
set_option maxRecDepth 100000 in
set_option maxHeartbeats 2000000 in
theorem law_k28 (X : Cx p s m #[Value.ref bs] meth c D G A code 7 ret RL) (hU : XU A s s.heap) (hlf : l.stackTraces = false) (hX : va_X bs N xs s s.heap) (hbl : bs < s.heap.size) (hA : ¬ A bs) (hN : N ≤ 3072) (hi : 6 * i + 6 ≤ N) (hH : Hd p l e s m bs below meth c D G A a b o (i + 1)) (hI : Inv v g ds ys w h) (h0 : L 0 = some (rv bs)) (h1 : L 1 = some (rv (a 19))) (h2 : L 2 = some (rv (b 0))) (h3 : L 3 = some (rv o)) (h4 : L 4 = some (iv (6 * (i : Int)))) (hc : cells ≤ 1000 + 20 * i) (hs : slots ≤ 20000 + 1500 * i) : LJ p l e s m bs below meth c D G A cells slots 1111 L [] (CW a v g R ds ys ++ ((o, al 1 q) :: RW b w h)) := by
  refine S_aload_n X dL_law_1111 rfl h1 ?_
  refine S_arg X hX hbl hA hN hi h0 h4 1 (by decide) dL_law_1112 dL_law_1113 dL_law_1115 dL_law_1116 dL_law_1117 ?_
  refine law_C X (qX11_gift l a v g R ds ys (sc xs i 1) hI.2.2.1.1 (toInt_inR _) hI.cdy hI.2.1.1 hI.2.1.2.1 hI.2.1.2.2.1 hI.ctd) lkL_144 rfl (avs := [iv (sc xs i 1)]) (rest := []) rfl rfl (nle rfl) ⟨nle rfl, nle rfl⟩ (by omega) (by omega) dL_law_1118 (fun z u hq => ?_)
  refine S_pop X dL_law_1121 ?_
  refine S_aload_n X dL_law_1122 rfl h2 ?_
  refine S_arg X hX hbl hA hN hi h0 h4 1 (by decide) dL_law_1123 dL_law_1124 dL_law_1126 dL_law_1127 dL_law_1128 ?_
  refine law_R X (qW12_gift l b (sc xs i 1) (toInt_inR _) hI) lkL_147 rfl (avs := [iv (sc xs i 1)]) (rest := []) rfl rfl (nle rfl) ⟨nle rfl, nle rfl⟩ (by omega) (by omega) dL_law_1129 (fun z2 u2 hq2 => ?_)
  obtain ⟨v9, g9, R9, ds9, ys9, w9, h9, rfl, rfl, hI9⟩ := pr_gift hI hq hq2
  refine S_pop X dL_law_1132 ?_
  refine S_goto (tgt := 1373) X dL_law_1133 (by decide) ?_
  exact law_next X hH hI9 h0 h1 h2 h3 h4 (by omega) (by omega)
set_option maxRecDepth 100000 in
set_option maxHeartbeats 2000000 in
theorem law_k29 (X : Cx p s m #[Value.ref bs] meth c D G A code 7 ret RL) (hU : XU A s s.heap) (hlf : l.stackTraces = false) (hX : va_X bs N xs s s.heap) (hbl : bs < s.heap.size) (hA : ¬ A bs) (hN : N ≤ 3072) (hi : 6 * i + 6 ≤ N) (hH : Hd p l e s m bs below meth c D G A a b o (i + 1)) (hI : Inv v g ds ys w h) (h0 : L 0 = some (rv bs)) (h1 : L 1 = some (rv (a 19))) (h2 : L 2 = some (rv (b 0))) (h3 : L 3 = some (rv o)) (h4 : L 4 = some (iv (6 * (i : Int)))) (hc : cells ≤ 1000 + 20 * i) (hs : slots ≤ 20000 + 1500 * i) : LJ p l e s m bs below meth c D G A cells slots 1136 L [] (CW a v g R ds ys ++ ((o, al 1 q) :: RW b w h)) := by
  refine S_aload_n X dL_law_1136 rfl h1 ?_
  refine S_arg X hX hbl hA hN hi h0 h4 1 (by decide) dL_law_1137 dL_law_1138 dL_law_1140 dL_law_1141 dL_law_1142 ?_
  refine S_arg X hX hbl hA hN hi h0 h4 2 (by decide) dL_law_1143 dL_law_1144 dL_law_1146 dL_law_1147 dL_law_1148 ?_
  refine law_C X (qX11_tune l a v g R ds ys (sc xs i 1) (sc xs i 2) hI.2.2.1.1 (toInt_inR _) (toInt_inR _) hI.2.2.1.2.1) lkL_148 rfl (avs := [iv (sc xs i 1), iv (sc xs i 2)]) (rest := []) rfl rfl (nle rfl) ⟨nle rfl, nle rfl⟩ (by omega) (by omega) dL_law_1149 (fun z u hq => ?_)
  refine S_pop X dL_law_1152 ?_
  refine S_aload_n X dL_law_1153 rfl h2 ?_
  refine S_arg X hX hbl hA hN hi h0 h4 1 (by decide) dL_law_1154 dL_law_1155 dL_law_1157 dL_law_1158 dL_law_1159 ?_
  refine S_arg X hX hbl hA hN hi h0 h4 2 (by decide) dL_law_1160 dL_law_1161 dL_law_1163 dL_law_1164 dL_law_1165 ?_
  refine law_R X (qX12_tune l b w h (sc xs i 1) (sc xs i 2) hI.rz (toInt_inR _) (toInt_inR _) hI.rlim) lkL_151 rfl (avs := [iv (sc xs i 1), iv (sc xs i 2)]) (rest := []) rfl rfl (nle rfl) ⟨nle rfl, nle rfl⟩ (by omega) (by omega) dL_law_1166 (fun z2 u2 hq2 => ?_)
  obtain ⟨v9, g9, R9, ds9, ys9, w9, h9, rfl, rfl, hI9⟩ := pr_tune hI hq hq2
  refine S_pop X dL_law_1169 ?_
  refine S_goto (tgt := 1373) X dL_law_1170 (by decide) ?_
  exact law_next X hH hI9 h0 h1 h2 h3 h4 (by omega) (by omega)
set_option maxRecDepth 100000 in
set_option maxHeartbeats 2000000 in
theorem law_k30 (X : Cx p s m #[Value.ref bs] meth c D G A code 7 ret RL) (hU : XU A s s.heap) (hlf : l.stackTraces = false) (hX : va_X bs N xs s s.heap) (hbl : bs < s.heap.size) (hA : ¬ A bs) (hN : N ≤ 3072) (hi : 6 * i + 6 ≤ N) (hH : Hd p l e s m bs below meth c D G A a b o (i + 1)) (hI : Inv v g ds ys w h) (h0 : L 0 = some (rv bs)) (h1 : L 1 = some (rv (a 19))) (h2 : L 2 = some (rv (b 0))) (h3 : L 3 = some (rv o)) (h4 : L 4 = some (iv (6 * (i : Int)))) (hc : cells ≤ 1000 + 20 * i) (hs : slots ≤ 20000 + 1500 * i) : LJ p l e s m bs below meth c D G A cells slots 1173 L [] (CW a v g R ds ys ++ ((o, al 1 q) :: RW b w h)) := by
  refine S_aload_n X dL_law_1173 rfl h1 ?_
  refine S_arg X hX hbl hA hN hi h0 h4 1 (by decide) dL_law_1174 dL_law_1175 dL_law_1177 dL_law_1178 dL_law_1179 ?_
  refine S_arg X hX hbl hA hN hi h0 h4 2 (by decide) dL_law_1180 dL_law_1181 dL_law_1183 dL_law_1184 dL_law_1185 ?_
  refine law_C X (qX11_place l a v g R ds ys (sc xs i 1) (sc xs i 2) hI.2.2.1.1 (toInt_inR _) (toInt_inR _)) lkL_152 rfl (avs := [iv (sc xs i 1), iv (sc xs i 2)]) (rest := []) rfl rfl (nle rfl) ⟨nle rfl, nle rfl⟩ (by omega) (by omega) dL_law_1186 (fun z u hq => ?_)
  refine S_pop X dL_law_1189 ?_
  refine S_aload_n X dL_law_1190 rfl h2 ?_
  refine S_arg X hX hbl hA hN hi h0 h4 1 (by decide) dL_law_1191 dL_law_1192 dL_law_1194 dL_law_1195 dL_law_1196 ?_
  refine S_arg X hX hbl hA hN hi h0 h4 2 (by decide) dL_law_1197 dL_law_1198 dL_law_1200 dL_law_1201 dL_law_1202 ?_
  refine law_R X (qX12_place l b w h (sc xs i 1) (sc xs i 2) hI.rz (toInt_inR _) (toInt_inR _)) lkL_155 rfl (avs := [iv (sc xs i 1), iv (sc xs i 2)]) (rest := []) rfl rfl (nle rfl) ⟨nle rfl, nle rfl⟩ (by omega) (by omega) dL_law_1203 (fun z2 u2 hq2 => ?_)
  obtain ⟨v9, g9, R9, ds9, ys9, w9, h9, rfl, rfl, hI9⟩ := pr_place hI hq hq2
  refine S_pop X dL_law_1206 ?_
  refine S_goto (tgt := 1373) X dL_law_1207 (by decide) ?_
  exact law_next X hH hI9 h0 h1 h2 h3 h4 (by omega) (by omega)
set_option maxRecDepth 100000 in
set_option maxHeartbeats 2000000 in
theorem law_k31 (X : Cx p s m #[Value.ref bs] meth c D G A code 7 ret RL) (hU : XU A s s.heap) (hlf : l.stackTraces = false) (hX : va_X bs N xs s s.heap) (hbl : bs < s.heap.size) (hA : ¬ A bs) (hN : N ≤ 3072) (hi : 6 * i + 6 ≤ N) (hH : Hd p l e s m bs below meth c D G A a b o (i + 1)) (hI : Inv v g ds ys w h) (h0 : L 0 = some (rv bs)) (h1 : L 1 = some (rv (a 19))) (h2 : L 2 = some (rv (b 0))) (h3 : L 3 = some (rv o)) (h4 : L 4 = some (iv (6 * (i : Int)))) (hc : cells ≤ 1000 + 20 * i) (hs : slots ≤ 20000 + 1500 * i) : LJ p l e s m bs below meth c D G A cells slots 1210 L [] (CW a v g R ds ys ++ ((o, al 1 q) :: RW b w h)) := by
  refine S_aload_n X dL_law_1210 rfl h1 ?_
  refine S_arg X hX hbl hA hN hi h0 h4 1 (by decide) dL_law_1211 dL_law_1212 dL_law_1214 dL_law_1215 dL_law_1216 ?_
  refine S_arg X hX hbl hA hN hi h0 h4 2 (by decide) dL_law_1217 dL_law_1218 dL_law_1220 dL_law_1221 dL_law_1222 ?_
  refine law_C X (qX11_overtakes l a v g R ds ys (sc xs i 1) (sc xs i 2) hI.2.2.1.1 (toInt_inR _) (toInt_inR _)) lkL_156 rfl (avs := [iv (sc xs i 1), iv (sc xs i 2)]) (rest := []) rfl rfl (nle rfl) ⟨nle rfl, nle rfl⟩ (by omega) (by omega) dL_law_1223 (fun z u hq => ?_)
  refine S_pop X dL_law_1226 ?_
  refine S_aload_n X dL_law_1227 rfl h2 ?_
  refine S_arg X hX hbl hA hN hi h0 h4 1 (by decide) dL_law_1228 dL_law_1229 dL_law_1231 dL_law_1232 dL_law_1233 ?_
  refine S_arg X hX hbl hA hN hi h0 h4 2 (by decide) dL_law_1234 dL_law_1235 dL_law_1237 dL_law_1238 dL_law_1239 ?_
  refine law_R X (qX12_overtakes l b w h (sc xs i 1) (sc xs i 2) hI.rz (toInt_inR _) (toInt_inR _)) lkL_159 rfl (avs := [iv (sc xs i 1), iv (sc xs i 2)]) (rest := []) rfl rfl (nle rfl) ⟨nle rfl, nle rfl⟩ (by omega) (by omega) dL_law_1240 (fun z2 u2 hq2 => ?_)
  obtain ⟨v9, g9, R9, ds9, ys9, w9, h9, rfl, rfl, hI9⟩ := pr_overtakes hI hq hq2
  refine S_pop X dL_law_1243 ?_
  refine S_goto (tgt := 1373) X dL_law_1244 (by decide) ?_
  exact law_next X hH hI9 h0 h1 h2 h3 h4 (by omega) (by omega)
set_option maxRecDepth 100000 in
set_option maxHeartbeats 2000000 in
theorem law_k32 (X : Cx p s m #[Value.ref bs] meth c D G A code 7 ret RL) (hU : XU A s s.heap) (hlf : l.stackTraces = false) (hX : va_X bs N xs s s.heap) (hbl : bs < s.heap.size) (hA : ¬ A bs) (hN : N ≤ 3072) (hi : 6 * i + 6 ≤ N) (hH : Hd p l e s m bs below meth c D G A a b o (i + 1)) (hI : Inv v g ds ys w h) (h0 : L 0 = some (rv bs)) (h1 : L 1 = some (rv (a 19))) (h2 : L 2 = some (rv (b 0))) (h3 : L 3 = some (rv o)) (h4 : L 4 = some (iv (6 * (i : Int)))) (hc : cells ≤ 1000 + 20 * i) (hs : slots ≤ 20000 + 1500 * i) : LJ p l e s m bs below meth c D G A cells slots 1247 L [] (CW a v g R ds ys ++ ((o, al 1 q) :: RW b w h)) := by
  refine S_aload_n X dL_law_1247 rfl h1 ?_
  refine law_C X (qX11_middle l a v g R ds ys hI.2.2.1.1) lkL_160 rfl (avs := []) (rest := []) rfl rfl (nle rfl) ⟨nle rfl, nle rfl⟩ (by omega) (by omega) dL_law_1248 (fun z u hq => ?_)
  refine S_pop X dL_law_1251 ?_
  refine S_aload_n X dL_law_1252 rfl h2 ?_
  refine law_R X (qX12_middle l b w h hI.rz) lkL_163 rfl (avs := []) (rest := []) rfl rfl (nle rfl) ⟨nle rfl, nle rfl⟩ (by omega) (by omega) dL_law_1253 (fun z2 u2 hq2 => ?_)
  obtain ⟨v9, g9, R9, ds9, ys9, w9, h9, rfl, rfl, hI9⟩ := pr_middle hI hq hq2
  refine S_pop X dL_law_1256 ?_
  refine S_goto (tgt := 1373) X dL_law_1257 (by decide) ?_
  exact law_next X hH hI9 h0 h1 h2 h3 h4 (by omega) (by omega)
set_option maxRecDepth 100000 in
set_option maxHeartbeats 2000000 in
theorem law_k33 (X : Cx p s m #[Value.ref bs] meth c D G A code 7 ret RL) (hU : XU A s s.heap) (hlf : l.stackTraces = false) (hX : va_X bs N xs s s.heap) (hbl : bs < s.heap.size) (hA : ¬ A bs) (hN : N ≤ 3072) (hi : 6 * i + 6 ≤ N) (hH : Hd p l e s m bs below meth c D G A a b o (i + 1)) (hI : Inv v g ds ys w h) (h0 : L 0 = some (rv bs)) (h1 : L 1 = some (rv (a 19))) (h2 : L 2 = some (rv (b 0))) (h3 : L 3 = some (rv o)) (h4 : L 4 = some (iv (6 * (i : Int)))) (hc : cells ≤ 1000 + 20 * i) (hs : slots ≤ 20000 + 1500 * i) : LJ p l e s m bs below meth c D G A cells slots 1260 L [] (CW a v g R ds ys ++ ((o, al 1 q) :: RW b w h)) := by
  refine S_aload_n X dL_law_1260 rfl h1 ?_
  refine S_arg X hX hbl hA hN hi h0 h4 1 (by decide) dL_law_1261 dL_law_1262 dL_law_1264 dL_law_1265 dL_law_1266 ?_
  refine law_C X (qX11_ends l a v g R ds ys (sc xs i 1) hI.2.2.1.1 (toInt_inR _)) lkL_164 rfl (avs := [iv (sc xs i 1)]) (rest := []) rfl rfl (nle rfl) ⟨nle rfl, nle rfl⟩ (by omega) (by omega) dL_law_1267 (fun z u hq => ?_)
  refine S_pop X dL_law_1270 ?_
  refine S_aload_n X dL_law_1271 rfl h2 ?_
  refine S_arg X hX hbl hA hN hi h0 h4 1 (by decide) dL_law_1272 dL_law_1273 dL_law_1275 dL_law_1276 dL_law_1277 ?_
  refine law_R X (qX12_ends l b w h (sc xs i 1) hI.rz (toInt_inR _)) lkL_167 rfl (avs := [iv (sc xs i 1)]) (rest := []) rfl rfl (nle rfl) ⟨nle rfl, nle rfl⟩ (by omega) (by omega) dL_law_1278 (fun z2 u2 hq2 => ?_)
  obtain ⟨v9, g9, R9, ds9, ys9, w9, h9, rfl, rfl, hI9⟩ := pr_ends hI hq hq2
  refine S_pop X dL_law_1281 ?_
  refine S_goto (tgt := 1373) X dL_law_1282 (by decide) ?_
  exact law_next X hH hI9 h0 h1 h2 h3 h4 (by omega) (by omega)
set_option maxRecDepth 100000 in
set_option maxHeartbeats 2000000 in
theorem law_k34 (X : Cx p s m #[Value.ref bs] meth c D G A code 7 ret RL) (hU : XU A s s.heap) (hlf : l.stackTraces = false) (hX : va_X bs N xs s s.heap) (hbl : bs < s.heap.size) (hA : ¬ A bs) (hN : N ≤ 3072) (hi : 6 * i + 6 ≤ N) (hH : Hd p l e s m bs below meth c D G A a b o (i + 1)) (hI : Inv v g ds ys w h) (h0 : L 0 = some (rv bs)) (h1 : L 1 = some (rv (a 19))) (h2 : L 2 = some (rv (b 0))) (h3 : L 3 = some (rv o)) (h4 : L 4 = some (iv (6 * (i : Int)))) (hc : cells ≤ 1000 + 20 * i) (hs : slots ≤ 20000 + 1500 * i) : LJ p l e s m bs below meth c D G A cells slots 1285 L [] (CW a v g R ds ys ++ ((o, al 1 q) :: RW b w h)) := by
  refine S_aload_n X dL_law_1285 rfl h1 ?_
  refine S_arg X hX hbl hA hN hi h0 h4 1 (by decide) dL_law_1286 dL_law_1287 dL_law_1289 dL_law_1290 dL_law_1291 ?_
  refine S_arg X hX hbl hA hN hi h0 h4 2 (by decide) dL_law_1292 dL_law_1293 dL_law_1295 dL_law_1296 dL_law_1297 ?_
  refine law_C X (qX11_stray l a v g R ds ys (sc xs i 1) (sc xs i 2) hI.2.2.1.1 (toInt_inR _) (toInt_inR _)) lkL_168 rfl (avs := [iv (sc xs i 1), iv (sc xs i 2)]) (rest := []) rfl rfl (nle rfl) ⟨nle rfl, nle rfl⟩ (by omega) (by omega) dL_law_1298 (fun z u hq => ?_)
  refine S_pop X dL_law_1301 ?_
  refine S_aload_n X dL_law_1302 rfl h2 ?_
  refine S_arg X hX hbl hA hN hi h0 h4 1 (by decide) dL_law_1303 dL_law_1304 dL_law_1306 dL_law_1307 dL_law_1308 ?_
  refine S_arg X hX hbl hA hN hi h0 h4 2 (by decide) dL_law_1309 dL_law_1310 dL_law_1312 dL_law_1313 dL_law_1314 ?_
  refine law_R X (qX12_stray l b w h (sc xs i 1) (sc xs i 2) hI.rz (toInt_inR _) (toInt_inR _)) lkL_171 rfl (avs := [iv (sc xs i 1), iv (sc xs i 2)]) (rest := []) rfl rfl (nle rfl) ⟨nle rfl, nle rfl⟩ (by omega) (by omega) dL_law_1315 (fun z2 u2 hq2 => ?_)
  obtain ⟨v9, g9, R9, ds9, ys9, w9, h9, rfl, rfl, hI9⟩ := pr_stray hI hq hq2
  refine S_pop X dL_law_1318 ?_
  refine S_goto (tgt := 1373) X dL_law_1319 (by decide) ?_
  exact law_next X hH hI9 h0 h1 h2 h3 h4 (by omega) (by omega)
set_option maxRecDepth 100000 in
set_option maxHeartbeats 2000000 in
theorem law_k35 (X : Cx p s m #[Value.ref bs] meth c D G A code 7 ret RL) (hU : XU A s s.heap) (hlf : l.stackTraces = false) (hX : va_X bs N xs s s.heap) (hbl : bs < s.heap.size) (hA : ¬ A bs) (hN : N ≤ 3072) (hi : 6 * i + 6 ≤ N) (hH : Hd p l e s m bs below meth c D G A a b o (i + 1)) (hI : Inv v g ds ys w h) (h0 : L 0 = some (rv bs)) (h1 : L 1 = some (rv (a 19))) (h2 : L 2 = some (rv (b 0))) (h3 : L 3 = some (rv o)) (h4 : L 4 = some (iv (6 * (i : Int)))) (hc : cells ≤ 1000 + 20 * i) (hs : slots ≤ 20000 + 1500 * i) : LJ p l e s m bs below meth c D G A cells slots 1322 L [] (CW a v g R ds ys ++ ((o, al 1 q) :: RW b w h)) := by
  refine S_aload_n X dL_law_1322 rfl h1 ?_
  refine law_C X (qX11_image l a v g R ds ys hI.pl6) lkL_172 rfl (avs := []) (rest := []) rfl rfl (nle rfl) ⟨nle rfl, nle rfl⟩ (by omega) (by omega) dL_law_1323 (fun z u hq => ?_)
  refine S_pop X dL_law_1326 ?_
  refine S_aload_n X dL_law_1327 rfl h2 ?_
  refine law_R X (qX12_image l b w h hI.rpl) lkL_175 rfl (avs := []) (rest := []) rfl rfl (nle rfl) ⟨nle rfl, nle rfl⟩ (by omega) (by omega) dL_law_1328 (fun z2 u2 hq2 => ?_)
  obtain ⟨hz, v9, g9, R9, ds9, ys9, w9, h9, rfl, rfl, hI9⟩ := pr_image hI hq hq2
  refine S_pop X dL_law_1331 ?_
  refine S_goto (tgt := 1373) X dL_law_1332 (by decide) ?_
  exact law_next X hH hI9 h0 h1 h2 h3 h4 (by omega) (by omega)
set_option maxRecDepth 100000 in
set_option maxHeartbeats 2000000 in
theorem law_k36 (X : Cx p s m #[Value.ref bs] meth c D G A code 7 ret RL) (hU : XU A s s.heap) (hlf : l.stackTraces = false) (hX : va_X bs N xs s s.heap) (hbl : bs < s.heap.size) (hA : ¬ A bs) (hN : N ≤ 3072) (hi : 6 * i + 6 ≤ N) (hH : Hd p l e s m bs below meth c D G A a b o (i + 1)) (hI : Inv v g ds ys w h) (h0 : L 0 = some (rv bs)) (h1 : L 1 = some (rv (a 19))) (h2 : L 2 = some (rv (b 0))) (h3 : L 3 = some (rv o)) (h4 : L 4 = some (iv (6 * (i : Int)))) (hc : cells ≤ 1000 + 20 * i) (hs : slots ≤ 20000 + 1500 * i) : LJ p l e s m bs below meth c D G A cells slots 1335 L [] (CW a v g R ds ys ++ ((o, al 1 q) :: RW b w h)) := by
  refine S_aload_n X dL_law_1335 rfl h1 ?_
  refine law_C X (qX11_back l a v g R ds ys hI.2.2.2.2.1.2.2.2.2.1) lkL_176 rfl (avs := []) (rest := []) rfl rfl (nle rfl) ⟨nle rfl, nle rfl⟩ (by omega) (by omega) dL_law_1336 (fun z u hq => ?_)
  refine S_pop X dL_law_1339 ?_
  refine S_aload_n X dL_law_1340 rfl h2 ?_
  refine law_R X (qX12_back l b w h hI.rhi) lkL_179 rfl (avs := []) (rest := []) rfl rfl (nle rfl) ⟨nle rfl, nle rfl⟩ (by omega) (by omega) dL_law_1341 (fun z2 u2 hq2 => ?_)
  obtain ⟨hz, v9, g9, R9, ds9, ys9, w9, h9, rfl, rfl, hI9⟩ := pr_back hI hq hq2
  refine S_pop X dL_law_1344 ?_
  refine S_goto (tgt := 1373) X dL_law_1345 (by decide) ?_
  exact law_next X hH hI9 h0 h1 h2 h3 h4 (by omega) (by omega)
set_option maxRecDepth 100000 in
set_option maxHeartbeats 2000000 in
theorem law_k37 (X : Cx p s m #[Value.ref bs] meth c D G A code 7 ret RL) (hU : XU A s s.heap) (hlf : l.stackTraces = false) (hX : va_X bs N xs s s.heap) (hbl : bs < s.heap.size) (hA : ¬ A bs) (hN : N ≤ 3072) (hi : 6 * i + 6 ≤ N) (hH : Hd p l e s m bs below meth c D G A a b o (i + 1)) (hI : Inv v g ds ys w h) (h0 : L 0 = some (rv bs)) (h1 : L 1 = some (rv (a 19))) (h2 : L 2 = some (rv (b 0))) (h3 : L 3 = some (rv o)) (h4 : L 4 = some (iv (6 * (i : Int)))) (hc : cells ≤ 1000 + 20 * i) (hs : slots ≤ 20000 + 1500 * i) : LJ p l e s m bs below meth c D G A cells slots 1348 L [] (CW a v g R ds ys ++ ((o, al 1 q) :: RW b w h)) := by
  refine S_aload_n X dL_law_1348 rfl h1 ?_
  refine S_arg X hX hbl hA hN hi h0 h4 1 (by decide) dL_law_1349 dL_law_1350 dL_law_1352 dL_law_1353 dL_law_1354 ?_
  refine law_C X (qX11_count l a v g R ds ys (sc xs i 1) (toInt_inR _)) lkL_180 rfl (avs := [iv (sc xs i 1)]) (rest := []) rfl rfl (nle rfl) ⟨nle rfl, nle rfl⟩ (by omega) (by omega) dL_law_1355 (fun z u hq => ?_)
  refine S_pop X dL_law_1358 ?_
  refine S_aload_n X dL_law_1359 rfl h2 ?_
  refine S_arg X hX hbl hA hN hi h0 h4 1 (by decide) dL_law_1360 dL_law_1361 dL_law_1363 dL_law_1364 dL_law_1365 ?_
  refine law_R X (qX12_count l b w h (sc xs i 1) (toInt_inR _)) lkL_183 rfl (avs := [iv (sc xs i 1)]) (rest := []) rfl rfl (nle rfl) ⟨nle rfl, nle rfl⟩ (by omega) (by omega) dL_law_1366 (fun z2 u2 hq2 => ?_)
  obtain ⟨v9, g9, R9, ds9, ys9, w9, h9, rfl, rfl, hI9⟩ := pr_count hI hq hq2
  refine S_pop X dL_law_1369 ?_
  refine S_goto (tgt := 1373) X dL_law_1370 (by decide) ?_
  exact law_next X hH hI9 h0 h1 h2 h3 h4 (by omega) (by omega)
set_option maxRecDepth 100000 in
set_option maxHeartbeats 4000000 in
theorem law_hd (X : Cx p s m #[Value.ref bs] meth c D G A code 7 ret RL) (hU : XU A s s.heap) (hlf : l.stackTraces = false) (hX : va_X bs N xs s s.heap) (hbl : bs < s.heap.size) (hA : ¬ A bs) (hAs : ∀ q, A q → s.heap.size ≤ q) (hN : N ≤ 3072) : ∀ (t i : Nat), i + t = 512 → Hd p l e s m bs below meth c D G A a b o i := by
  intro t
  induction t with
  | zero =>
    intro i ht v g R ds ys w h q L cells slots hI h0 h1 h2 h3 h4 hc hs
    refine S_iload X dL_law_23 h4 ?_
    refine S_aload_n X dL_law_25 rfl h0 ?_
    refine S_slen X hX hbl hA dL_law_26 ?_
    refine S_bipush X dL_law_27 (by decide) ?_
    refine S_isub X dL_law_29 ?_
    refine S_icmp_gt (tgt := 1379) X dL_law_30 (by decide) (by omega) (by omega) (fun _ => ?_) (fun h9 => absurd h9 (by omega))
    refine S_iconst X dL_law_1379 ?_
    exact S_end X hAs dL_law_1380 (by omega) (by omega)
  | succ t ih =>
    intro i ht v g R ds ys w h q L cells slots hI h0 h1 h2 h3 h4 hc hs
    have hH := ih (i + 1) (by omega)
    refine S_iload X dL_law_23 h4 ?_
    refine S_aload_n X dL_law_25 rfl h0 ?_
    refine S_slen X hX hbl hA dL_law_26 ?_
    refine S_bipush X dL_law_27 (by decide) ?_
    refine S_isub X dL_law_29 ?_
    refine S_icmp_gt (tgt := 1379) X dL_law_30 (by decide) (by omega) (by omega) (fun _ => ?_) (fun h9 => ?_)
    · refine S_iconst X dL_law_1379 ?_
      exact S_end X hAs dL_law_1380 (by omega) (by omega)
    have hi : 6 * i + 6 ≤ N := by omega
    refine S_aload_n X dL_law_33 rfl h0 ?_
    refine S_iload X dL_law_34 h4 ?_
    refine S_sld X hX hbl hA (by omega) (by omega) (by omega) dL_law_36 ?_
    refine S_bipush X dL_law_37 (by decide) ?_
    refine S_iand X dL_law_39 ?_
    generalize (xs (6 * (i : Int)).toNat).toInt = y0
    have hr : inR (zAnd y0 63) := zAnd_r _ _
    generalize zAnd y0 63 = y1 at hr
    by_cases hk0 : y1 = 0
    · exact S_tswIn (j := 0) (tgt := 208) X dL_law_40 hk0 rfl (by decide) (by decide) (law_k0 X hU hlf hX hbl hA hN hi hH hI h0 h1 h2 h3 h4 hc hs)
    by_cases hk1 : y1 = 1
    · exact S_tswIn (j := 1) (tgt := 281) X dL_law_40 hk1 rfl (by decide) (by decide) (law_k1 X hU hlf hX hbl hA hN hi hH hI h0 h1 h2 h3 h4 hc hs)
    by_cases hk2 : y1 = 2
    · exact S_tswIn (j := 2) (tgt := 306) X dL_law_40 hk2 rfl (by decide) (by decide) (law_k2 X hU hlf hX hbl hA hN hi hH hI h0 h1 h2 h3 h4 hc hs)
    by_cases hk3 : y1 = 3
    · exact S_tswIn (j := 3) (tgt := 331) X dL_law_40 hk3 rfl (by decide) (by decide) (law_k3 X hU hlf hX hbl hA hN hi hH hI h0 h1 h2 h3 h4 hc hs)
    by_cases hk4 : y1 = 4
    · exact S_tswIn (j := 4) (tgt := 356) X dL_law_40 hk4 rfl (by decide) (by decide) (law_k4 X hU hlf hX hbl hA hN hi hH hI h0 h1 h2 h3 h4 hc hs)
    by_cases hk5 : y1 = 5
    · exact S_tswIn (j := 5) (tgt := 424) X dL_law_40 hk5 rfl (by decide) (by decide) (law_k5 X hU hlf hX hbl hA hN hi hH hI h0 h1 h2 h3 h4 hc hs)
    by_cases hk6 : y1 = 6
    · exact S_tswIn (j := 6) (tgt := 461) X dL_law_40 hk6 rfl (by decide) (by decide) (law_k6 X hU hlf hX hbl hA hN hi hH hI h0 h1 h2 h3 h4 hc hs)
    by_cases hk7 : y1 = 7
    · exact S_tswIn (j := 7) (tgt := 510) X dL_law_40 hk7 rfl (by decide) (by decide) (law_k7 X hU hlf hX hbl hA hN hi hH hI h0 h1 h2 h3 h4 hc hs)
    by_cases hk8 : y1 = 8
    · exact S_tswIn (j := 8) (tgt := 563) X dL_law_40 hk8 rfl (by decide) (by decide) (law_k8 X hU hlf hX hbl hA hN hi hH hI h0 h1 h2 h3 h4 hc hs)
    by_cases hk9 : y1 = 9
    · exact S_tswIn (j := 9) (tgt := 588) X dL_law_40 hk9 rfl (by decide) (by decide) (law_k9 X hU hlf hX hbl hA hN hi hH hI h0 h1 h2 h3 h4 hc hs)
    by_cases hk10 : y1 = 10
    · exact S_tswIn (j := 10) (tgt := 613) X dL_law_40 hk10 rfl (by decide) (by decide) (law_k10 X hU hlf hX hbl hA hN hi hH hI h0 h1 h2 h3 h4 hc hs)
    by_cases hk11 : y1 = 11
    · exact S_tswIn (j := 11) (tgt := 626) X dL_law_40 hk11 rfl (by decide) (by decide) (law_k11 X hU hlf hX hbl hA hN hi hH hI h0 h1 h2 h3 h4 hc hs)
    by_cases hk12 : y1 = 12
    · exact S_tswIn (j := 12) (tgt := 675) X dL_law_40 hk12 rfl (by decide) (by decide) (law_k12 X hU hlf hX hbl hA hN hi hH hI h0 h1 h2 h3 h4 hc hs)
    by_cases hk13 : y1 = 13
    · exact S_tswIn (j := 13) (tgt := 700) X dL_law_40 hk13 rfl (by decide) (by decide) (law_k13 X hU hlf hX hbl hA hN hi hH hI h0 h1 h2 h3 h4 hc hs)
    by_cases hk14 : y1 = 14
    · exact S_tswIn (j := 14) (tgt := 725) X dL_law_40 hk14 rfl (by decide) (by decide) (law_k14 X hU hlf hX hbl hA hN hi hH hI h0 h1 h2 h3 h4 hc hs)
    by_cases hk15 : y1 = 15
    · exact S_tswIn (j := 15) (tgt := 738) X dL_law_40 hk15 rfl (by decide) (by decide) (law_k15 X hU hlf hX hbl hA hN hi hH hI h0 h1 h2 h3 h4 hc hs)
    by_cases hk16 : y1 = 16
    · exact S_tswIn (j := 16) (tgt := 763) X dL_law_40 hk16 rfl (by decide) (by decide) (law_k16 X hU hlf hX hbl hA hN hi hH hI h0 h1 h2 h3 h4 hc hs)
    by_cases hk17 : y1 = 17
    · exact S_tswIn (j := 17) (tgt := 788) X dL_law_40 hk17 rfl (by decide) (by decide) (law_k17 X hU hlf hX hbl hA hN hi hH hI h0 h1 h2 h3 h4 hc hs)
    by_cases hk18 : y1 = 18
    · exact S_tswIn (j := 18) (tgt := 813) X dL_law_40 hk18 rfl (by decide) (by decide) (law_k18 X hU hlf hX hbl hA hN hi hH hI h0 h1 h2 h3 h4 hc hs)
    by_cases hk19 : y1 = 19
    · exact S_tswIn (j := 19) (tgt := 838) X dL_law_40 hk19 rfl (by decide) (by decide) (law_k19 X hU hlf hX hbl hA hN hi hH hI h0 h1 h2 h3 h4 hc hs)
    by_cases hk20 : y1 = 20
    · exact S_tswIn (j := 20) (tgt := 863) X dL_law_40 hk20 rfl (by decide) (by decide) (law_k20 X hU hlf hX hbl hA hN hi hH hI h0 h1 h2 h3 h4 hc hs)
    by_cases hk21 : y1 = 21
    · exact S_tswIn (j := 21) (tgt := 900) X dL_law_40 hk21 rfl (by decide) (by decide) (law_k21 X hU hlf hX hbl hA hN hi hH hI h0 h1 h2 h3 h4 hc hs)
    by_cases hk22 : y1 = 22
    · exact S_tswIn (j := 22) (tgt := 925) X dL_law_40 hk22 rfl (by decide) (by decide) (law_k22 X hU hlf hX hbl hA hN hi hH hI h0 h1 h2 h3 h4 hc hs)
    by_cases hk23 : y1 = 23
    · exact S_tswIn (j := 23) (tgt := 962) X dL_law_40 hk23 rfl (by decide) (by decide) (law_k23 X hU hlf hX hbl hA hN hi hH hI h0 h1 h2 h3 h4 hc hs)
    by_cases hk24 : y1 = 24
    · exact S_tswIn (j := 24) (tgt := 987) X dL_law_40 hk24 rfl (by decide) (by decide) (law_k24 X hU hlf hX hbl hA hN hi hH hI h0 h1 h2 h3 h4 hc hs)
    by_cases hk25 : y1 = 25
    · exact S_tswIn (j := 25) (tgt := 1036) X dL_law_40 hk25 rfl (by decide) (by decide) (law_k25 X hU hlf hX hbl hA hN hi hH hI h0 h1 h2 h3 h4 hc hs)
    by_cases hk26 : y1 = 26
    · exact S_tswIn (j := 26) (tgt := 1061) X dL_law_40 hk26 rfl (by decide) (by decide) (law_k26 X hU hlf hX hbl hA hN hi hH hI h0 h1 h2 h3 h4 hc hs)
    by_cases hk27 : y1 = 27
    · exact S_tswIn (j := 27) (tgt := 1086) X dL_law_40 hk27 rfl (by decide) (by decide) (law_k27 X hU hlf hX hbl hA hN hi hH hI h0 h1 h2 h3 h4 hc hs)
    by_cases hk28 : y1 = 28
    · exact S_tswIn (j := 28) (tgt := 1111) X dL_law_40 hk28 rfl (by decide) (by decide) (law_k28 X hU hlf hX hbl hA hN hi hH hI h0 h1 h2 h3 h4 hc hs)
    by_cases hk29 : y1 = 29
    · exact S_tswIn (j := 29) (tgt := 1136) X dL_law_40 hk29 rfl (by decide) (by decide) (law_k29 X hU hlf hX hbl hA hN hi hH hI h0 h1 h2 h3 h4 hc hs)
    by_cases hk30 : y1 = 30
    · exact S_tswIn (j := 30) (tgt := 1173) X dL_law_40 hk30 rfl (by decide) (by decide) (law_k30 X hU hlf hX hbl hA hN hi hH hI h0 h1 h2 h3 h4 hc hs)
    by_cases hk31 : y1 = 31
    · exact S_tswIn (j := 31) (tgt := 1210) X dL_law_40 hk31 rfl (by decide) (by decide) (law_k31 X hU hlf hX hbl hA hN hi hH hI h0 h1 h2 h3 h4 hc hs)
    by_cases hk32 : y1 = 32
    · exact S_tswIn (j := 32) (tgt := 1247) X dL_law_40 hk32 rfl (by decide) (by decide) (law_k32 X hU hlf hX hbl hA hN hi hH hI h0 h1 h2 h3 h4 hc hs)
    by_cases hk33 : y1 = 33
    · exact S_tswIn (j := 33) (tgt := 1260) X dL_law_40 hk33 rfl (by decide) (by decide) (law_k33 X hU hlf hX hbl hA hN hi hH hI h0 h1 h2 h3 h4 hc hs)
    by_cases hk34 : y1 = 34
    · exact S_tswIn (j := 34) (tgt := 1285) X dL_law_40 hk34 rfl (by decide) (by decide) (law_k34 X hU hlf hX hbl hA hN hi hH hI h0 h1 h2 h3 h4 hc hs)
    by_cases hk35 : y1 = 35
    · exact S_tswIn (j := 35) (tgt := 1322) X dL_law_40 hk35 rfl (by decide) (by decide) (law_k35 X hU hlf hX hbl hA hN hi hH hI h0 h1 h2 h3 h4 hc hs)
    by_cases hk36 : y1 = 36
    · exact S_tswIn (j := 36) (tgt := 1335) X dL_law_40 hk36 rfl (by decide) (by decide) (law_k36 X hU hlf hX hbl hA hN hi hH hI h0 h1 h2 h3 h4 hc hs)
    by_cases hk37 : y1 = 37
    · exact S_tswIn (j := 37) (tgt := 1348) X dL_law_40 hk37 rfl (by decide) (by decide) (law_k37 X hU hlf hX hbl hA hN hi hH hI h0 h1 h2 h3 h4 hc hs)
    refine S_tswOut (tgt := 1373) X dL_law_40 hr (by omega) (by decide) ?_
    exact law_next X hH hI h0 h1 h2 h3 h4 (by omega) (by omega)
end LW
