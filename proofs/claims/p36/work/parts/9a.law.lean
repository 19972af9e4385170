/-! THE CLAIM OUT OF ONE WALK OF THE LAW'S BODY. Your part is whole_start (and what it stands on); all else here is the same for every law, but numbers. -/
def R_law : String := "BorrowedBeatLaw"
def lw_P (b : Addr) (xs : List Int32) (args : Array Value) (s : State) : Prop := args = #[.ref b] ∧ s.IntsAt b xs ∧ xs.length ≤ 3072 ∧ (Jvm.Cond.and given_1 narrow_1).before args s = true
def lw_Q (_ : Array Value) (s : State) (o : Outcome) (t : State) : Prop := o = .returned (some (.int 1)) ∧ Framed s o t [] 601024 7293034
def lw_Z (below : List Frame) (a : Array Value) (s : State) : State → Prop := fun t => ∃ o, t.status = .running ∧ Ended t below o ∧ lw_Q a s o t
/-- the law's own end, with 1 on the stack, nothing written that was there before, its room as the claim has it -/
theorem lw_ret {p : Program} {l : Launch} {e : Env} {s : State} {m : MethodId} {below : List Frame} {meth : Method} {c : Code} {b : Nat} (hx : p.tables.exec = Jvm.exec) (hb : c.code = code) (hr : meth.sig.returnType = ret) (hlocks : meth.locks = false) {pc : Nat} {H : Heap} {ls : Array Slot} (hdg : decode code pc = .ok (.ireturn, 1)) : W p l e room_1 s m #[Value.ref b] below meth c H [] 601024 7293034 (lw_Z below #[Value.ref b] s) (F0 m pc ls [.int 1]) := by
  intro T hT X
  obtain ⟨fs, hret, hrun, hended, hW, hframe⟩ := X.leave (v := some (.int 1)) (hlocks := hlocks) (fun h => by rw [hr] at h; cases h)
  have hmeth' : T.vm.method? m = some meth := X.method'
  refine ⟨T.setFrames fs, ?_, .returned (some (.int 1)), hrun, hended, rfl, ⟨_, rfl⟩, hW, hframe⟩
  jvm_step X.here [X.here.top, hx, hb, hdg, hmeth', hr, ret, narrow_b1]
  (try refine ⟨rfl, ?_⟩); (try refine ⟨rfl, ?_⟩)
  first | (intro acts; rw [hret _ acts rfl rfl rfl]) | rw [hret _ _ rfl rfl rfl]
  exact Steps.refl _
/-- what holds at the law's entry: the machine, the code, the tables' words (any of lw_tbl by 'hts w (by decide +kernel)'), the script of L ints xs at the cell b, what the Statement gives of the start (any of its parts by flat_of_before) -/
def lw_At (p : Program) (s : State) (m : MethodId) (meth : Method) (c : Code) (b L : Nat) (xs : Nat → Int32) : Prop :=
  p.tables.exec = Jvm.exec ∧ c.code = code ∧ meth.sig.returnType = ret ∧ c.maxLocals = 7 ∧ s.vm.findClass R_law = some m.cls ∧ (∀ w ∈ lw_tbl, w.before #[Value.ref b] s = true) ∧ va_X b L xs s s.heap ∧ b < s.heap.size ∧ meth.locks = false ∧ (Jvm.Cond.and given_1 narrow_1).before #[Value.ref b] s = true

/-! THE LAW'S LOOP -/
def sc (xs : Nat → Int32) (i : Nat) (k : Int) : Int := (xs (6 * (i : Int) + k).toNat).toInt
theorem AMi.imp {l : Launch} {y : MethodName} {b : ByteArray} {n d mc ms : Nat} {ret : FieldType} {av : List AV} {ws : EW} {Post Post2 : Int → EW → Prop} (hM : AMi l y b n ret d mc ms av ws Post) (h : ∀ z u, Post z u → Post2 z u) : AMi l y b n ret d mc ms av ws Post2 := by
  intro D G sz p e h1 h2 h3 s m args below h4 h5 h6 h7
  obtain ⟨k, o, a1, a2, a3, ⟨⟨a4, a5⟩, L, a6, a7⟩⟩ := hM D G sz p e h1 h2 h3 s m args below h4 h5 h6 h7
  obtain ⟨r, u, b1, ⟨z, b2, b3⟩, b4⟩ := a4
  exact ⟨k, o, a1, a2, a3, ⟨⟨⟨r, u, b1, ⟨z, b2, h z u b3⟩, b4⟩, a5⟩, L, a6, a7⟩⟩
section WZ
variable {v : Nat → Int} {g : Nat → Int → Int} {ds : List LwS} {ys : Nat → LwY} {w : Nat → Int} {h : Nat → Int → Int}
theorem qW12_damp (l : Launch) (b : Nat → Nat) (y1 : Int) (r1 : inR y1) (hI : Inv v g ds ys w h) : AMi l yX12_damp cX12_damp 2 .int 6 0 0 [rv (b 0), iv y1] (RW b w h) (fun z u => (w 21 = 0 ∧ z = -1 ∧ u = RW b w h) ∨ (1 ≤ w 21 ∧ QX12_damp b w h ds y1 z u)) := by
  by_cases hp : w 21 = 0
  · refine (qZ12_damp l b w h y1 hp).imp (fun z u hq => ?_)
    exact Or.inl ⟨hp, hq.1, hq.2⟩
  · have hp2 := hI.rpl
    have hp3 := hI.pl
    have hp1 : 1 ≤ v 13 := by omega
    refine (qX12_damp l b w h ds y1 (hI.rpm hp1) hI.ho r1).imp (fun z u hq => ?_)
    exact Or.inr ⟨by omega, hq⟩
theorem qW12_day (l : Launch) (b : Nat → Nat) (y1 : Int) (r1 : inR y1) (hI : Inv v g ds ys w h) : AMi l yX12_day cX12_day 3 .int 6 0 0 [rv (b 0), iv y1] (RW b w h) (fun z u => QX12_day b w h ds y1 z u) := by
  by_cases hp : w 21 = 0
  · refine (qZ12_day l b w h y1 hp).imp (fun z u hq => ?_)
    exact Or.inl ⟨hq.1, hq.2, Or.inl hp⟩
  · have hp2 := hI.rpl
    have hp3 := hI.pl
    have hp1 : 1 ≤ v 13 := by omega
    refine (qX12_day l b w h ds y1 (hI.rpm hp1) hI.ho (hI.rdy hp1) hI.rB hI.rtd hI.rac r1).imp (fun z u hq => ?_)
    exact hq
theorem qW12_week (l : Launch) (b : Nat → Nat) (y1 : Int) (r1 : inR y1) (hI : Inv v g ds ys w h) : AMi l yX12_week cX12_week 3 .int 13 0 0 [rv (b 0), iv y1] (RW b w h) (fun z u => (w 21 = 0 ∧ z = -1 ∧ u = RW b w h) ∨ (1 ≤ w 21 ∧ QX12_week b w h ds y1 z u)) := by
  by_cases hp : w 21 = 0
  · refine (qZ12_week l b w h y1 hp).imp (fun z u hq => ?_)
    exact Or.inl ⟨hp, hq.1, hq.2⟩
  · have hp2 := hI.rpl
    have hp3 := hI.pl
    have hp1 : 1 ≤ v 13 := by omega
    refine (qX12_week l b w h ds y1 hI.rz r1 (hI.rpm hp1) hI.ho (hI.rdy hp1) hI.rtd).imp (fun z u hq => ?_)
    exact Or.inr ⟨by omega, hq⟩
theorem qW12_gift (l : Launch) (b : Nat → Nat) (y1 : Int) (r1 : inR y1) (hI : Inv v g ds ys w h) : AMi l yX12_gift cX12_gift 7 .int 6 0 0 [rv (b 0), iv y1] (RW b w h) (fun z u => (w 21 = 0 ∧ z = -1 ∧ u = RW b w h) ∨ (1 ≤ w 21 ∧ QX12_gift b w h ds y1 z u)) := by
  by_cases hp : w 21 = 0
  · refine (qZ12_gift l b w h y1 hp).imp (fun z u hq => ?_)
    exact Or.inl ⟨hp, hq.1, hq.2⟩
  · have hp2 := hI.rpl
    have hp3 := hI.pl
    have hp1 : 1 ≤ v 13 := by omega
    refine (qX12_gift l b w h ds y1 hI.rz r1 (hI.rpm hp1) hI.ho (hI.rdy hp1) hI.rtd).imp (fun z u hq => ?_)
    exact Or.inr ⟨by omega, hq⟩
theorem qW12_odds (l : Launch) (b : Nat → Nat) (y1 : Int) (y2 : Int) (r1 : inR y1) (r2 : inR y2) (hI : Inv v g ds ys w h) : AMi l yX12_odds cX12_odds 3 .int 14 0 0 [rv (b 0), iv y1, iv y2] (RW b w h) (fun z u => (w 21 = 0 ∧ z = -1 ∧ u = RW b w h) ∨ (1 ≤ w 21 ∧ QX12_odds b w h y1 y2 z u)) := by
  by_cases hp : w 21 = 0
  · refine (qZ12_odds l b w h y1 y2 hp r1).imp (fun z u hq => ?_)
    exact Or.inl ⟨hp, hq.1, hq.2⟩
  · have hp2 := hI.rpl
    have hp3 := hI.pl
    have hp1 : 1 ≤ v 13 := by omega
    refine (qX12_odds l b w h y1 y2 hI.rz r1 r2 (hI.rdy hp1)).imp (fun z u hq => ?_)
    exact Or.inr ⟨by omega, hq⟩
end WZ
section LW
variable {p : Program} {l : Launch} {e : Env} {s : State} {m : MethodId} {below : List Frame} {meth : Method} {c : Code} {D : va_G} {G : GG} {A : Nat → Prop} {bs N : Nat} {xs : Nat → Int32} {a b : Nat → Nat} {o : Nat} {cells slots pc i : Nat} {L : Nat → Option AV} {st : List AV} {ws : EW} {v : Nat → Int} {g : Nat → Int → Int} {R : Int → Int → Int} {ds : List LwS} {ys : Nat → LwY} {w : Nat → Int} {h : Nat → Int → Int} {q : Nat → Int64}
abbrev LJ (p : Program) (l : Launch) (e : Env) (s : State) (m : MethodId) (bs : Nat) (below : List Frame) (meth : Method) (c : Code) (D : va_G) (G : GG) (A : Nat → Prop) (cells slots pc : Nat) (L : Nat → Option AV) (st : List AV) (ws : EW) : Prop := S_ p l e room_1 s m #[Value.ref bs] below meth c (lw_Z below #[Value.ref bs] s) D G A 7 cells slots pc L st ws
def Hd (p : Program) (l : Launch) (e : Env) (s : State) (m : MethodId) (bs : Nat) (below : List Frame) (meth : Method) (c : Code) (D : va_G) (G : GG) (A : Nat → Prop) (a b : Nat → Nat) (o : Nat) (i : Nat) : Prop :=
  ∀ (v : Nat → Int) (g : Nat → Int → Int) (R : Int → Int → Int) (ds : List LwS) (ys : Nat → LwY) (w : Nat → Int) (h : Nat → Int → Int) (q : Nat → Int64) (L : Nat → Option AV) (cells slots : Nat), Inv v g ds ys w h → L 0 = some (rv bs) → L 1 = some (rv (a 19)) → L 2 = some (rv (b 0)) → L 3 = some (rv o) → L 4 = some (iv (6 * (i : Int))) → cells ≤ 1000 + 20 * i → slots ≤ 20000 + 1500 * i → LJ p l e s m bs below meth c D G A cells slots 23 L [] (CW a v g R ds ys ++ ((o, al 1 q) :: RW b w h))
theorem S_arg (X : Cx p s m #[Value.ref bs] meth c D G A code 7 ret RL) (hX : va_X bs N xs s s.heap) (hbl : bs < s.heap.size) (hA : ¬ A bs) (hN : N ≤ 3072) (hi : 6 * i + 6 ≤ N) (h0 : L 0 = some (rv bs)) (h4 : L 4 = some (iv (6 * (i : Int)))) (k : Int) (hk : 0 ≤ k ∧ k ≤ 5) (d0 : decode code pc = .ok (.aload_n 0, 1)) (d1 : decode code (pc + 1) = .ok (.iload 4, 2)) (d2 : decode code (pc + 3) = .ok (.iconst k, 1)) (d3 : decode code (pc + 4) = .ok (.iadd, 1)) (d4 : decode code (pc + 5) = .ok (.iaload, 1)) (kk : LJ p l e s m bs below meth c D G A cells slots (pc + 6) L (iv (sc xs i k) :: st) ws) : LJ p l e s m bs below meth c D G A cells slots pc L st ws := by
  refine S_aload_n X d0 rfl h0 ?_
  refine S_iload X d1 h4 ?_
  refine S_iconst X d2 ?_
  refine S_iadd X d3 ?_
  exact S_sld X hX hbl hA (by omega) (by omega) (by omega) d4 kk
theorem S_iceqT (X : Cx p s m #[Value.ref bs] meth c D G A code 7 ret RL) {x y : Int} {off : Int} {tgt : Nat} (hdg : decode code pc = .ok (.if_icmp .eq off, 3)) (ht : (pc : Int) + off = (tgt : Int)) (h : x = y) (kt : LJ p l e s m bs below meth c D G A cells slots tgt L st ws) : LJ p l e s m bs below meth c D G A cells slots pc L (iv y :: iv x :: st) ws :=
  fun H locs ls hP hD hS hl => lv_icmp_eq X.1 X.2.1 hdg ht (fun _ => kt H locs ls hP hD hS hl) (fun h2 => absurd (congrArg i32 h) h2)
theorem S_end (X : Cx p s m #[Value.ref bs] meth c D G A code 7 ret RL) (hAs : ∀ q, A q → s.heap.size ≤ q) (hdg : decode code pc = .ok (.ireturn, 1)) (hc : cells ≤ 601024) (hs : slots ≤ 7293034) : LJ p l e s m bs below meth c D G A cells slots pc L [iv 1] ws := by
  intro H locs ls hP hD hS hl
  refine va_forget (fun q hq => hAs _ (hS.2.2 q hq)) ?_
  refine W.widen (k := 601024) (n := 7293034) hc hs ?_
  exact lw_ret X.1 X.2.1 X.2.2.2.2.2.2.2.2.1 X.2.2.2.2.2.2.2.2.2 hdg
theorem cw_19 {wb : EW} : (CW a v g R ds ys ++ wb)[19]? = some (a 19, ob 10 (o10 a v)) := rfl
theorem law_C {y : MethodName} {bb : ByteArray} {n d mc ms idx k : Nat} {ret1 : FieldType} {avs rest : List AV} {wb : EW} {Post : Int → EW → Prop} (X : Cx p s m #[Value.ref bs] meth c D G A code 7 ret RL) (hM : AMi l y bb n ret1 d mc ms (rv (a 19) :: avs) (CW a v g R ds ys) Post) (K : LkV RL idx y bb n (some ret1) k) (hy : some "BorrowedBeat" = some y.cls) (hst : st = avs.reverse ++ rv (a 19) :: rest) (hk : avs.length = k) (h8 : rest.length ≤ 8) (hR : d + 1 ≤ 2048 ∧ 8 + (n + 11) + 40 * d ≤ 84000) (hc : cells + mc ≤ 601024) (hs : slots + ms ≤ 7293034) (hdg : decode code pc = .ok (.invokevirtual idx, 3)) (kk : ∀ (z : Int) (u : EW), Post z u → LJ p l e s m bs below meth c D G A (cells + mc) (slots + ms) (pc + 3) L (iv z :: rest) (u ++ wb)) : LJ p l e s m bs below meth c D G A cells slots pc L st (CW a v g R ds ys ++ wb) :=
  S_callL X hM (run_V X K 19 cw_19 hy (is := List.range (CW a v g R ds ys).length) hst hk h8 hR ⟨hc, hs⟩ hdg (rg_nd _) rg_L) kk
theorem law_R {y : MethodName} {bb : ByteArray} {n d mc ms idx k : Nat} {ret1 : FieldType} {avs rest : List AV} {u : EW} {Post : Int → EW → Prop} (X : Cx p s m #[Value.ref bs] meth c D G A code 7 ret RL) (hM : AMi l y bb n ret1 d mc ms (rv (b 0) :: avs) (RW b w h) Post) (K : LkV RL idx y bb n (some ret1) k) (hy : some "BorrowedBeatModel" = some y.cls) (hst : st = avs.reverse ++ rv (b 0) :: rest) (hk : avs.length = k) (h8 : rest.length ≤ 8) (hR : d + 1 ≤ 2048 ∧ 8 + (n + 11) + 40 * d ≤ 84000) (hc : cells + mc ≤ 601024) (hs : slots + ms ≤ 7293034) (hdg : decode code pc = .ok (.invokevirtual idx, 3)) (kk : ∀ (z : Int) (u2 : EW), Post z u2 → LJ p l e s m bs below meth c D G A (cells + mc) (slots + ms) (pc + 3) L (iv z :: rest) (u ++ ((o, al 1 q) :: u2))) : LJ p l e s m bs below meth c D G A cells slots pc L st (u ++ ((o, al 1 q) :: RW b w h)) := by
  have e1 : ∀ u2 : EW, u ++ ((o, al 1 q) :: u2) = (u ++ [(o, al 1 q)]) ++ (u2 ++ []) := fun u2 => by rw [List.append_nil, List.append_assoc]; rfl
  have e2 : ((u ++ [(o, al 1 q)]) ++ (RW b w h ++ []))[u.length + 1]? = some (b 0, ob 11 (o11 b w)) := by
    rw [List.getElem?_append_right (by rw [List.length_append]; exact Nat.le_refl _), List.length_append, List.length_singleton, Nat.sub_self]
    rfl
  refine S_w (e1 _) ?_
  refine S_callM X hM (run_V X K (u.length + 1) e2 hy (is := rgM (u ++ [(o, al 1 q)]).length (RW b w h).length) hst hk h8 hR ⟨hc, hs⟩ hdg (rgM_nd _ _) rg_M) (fun z u2 hq => ?_)
  exact S_w (e1 _).symm (kk z u2 hq)
theorem law_next (X : Cx p s m #[Value.ref bs] meth c D G A code 7 ret RL) (hH : Hd p l e s m bs below meth c D G A a b o (i + 1)) (hI : Inv v g ds ys w h) (h0 : L 0 = some (rv bs)) (h1 : L 1 = some (rv (a 19))) (h2 : L 2 = some (rv (b 0))) (h3 : L 3 = some (rv o)) (h4 : L 4 = some (iv (6 * (i : Int)))) (hc : cells ≤ 1000 + 20 * (i + 1)) (hs : slots ≤ 20000 + 1500 * (i + 1)) : LJ p l e s m bs below meth c D G A cells slots 1345 L [] (CW a v g R ds ys ++ ((o, al 1 q) :: RW b w h)) := by
  refine S_iinc X dL_law_1345 (by decide) h4 ?_
  refine S_goto (tgt := 23) X dL_law_1348 (by decide) ?_
  refine hH v g R ds ys w h q _ _ _ hI h0 h1 h2 h3 ?_ hc hs
  show some (iv (6 * (i : Int) + 6)) = some (iv (6 * ((i + 1 : Nat) : Int)))
  rw [show 6 * (i : Int) + 6 = 6 * ((i + 1 : Nat) : Int) by omega]
set_option maxRecDepth 100000 in
set_option maxHeartbeats 2000000 in
theorem law_k0 (X : Cx p s m #[Value.ref bs] meth c D G A code 7 ret RL) (hU : XU A s s.heap) (hlf : l.stackTraces = false) (hX : va_X bs N xs s s.heap) (hbl : bs < s.heap.size) (hA : ¬ A bs) (hN : N ≤ 3072) (hi : 6 * i + 6 ≤ N) (hH : Hd p l e s m bs below meth c D G A a b o (i + 1)) (hI : Inv v g ds ys w h) (h0 : L 0 = some (rv bs)) (h1 : L 1 = some (rv (a 19))) (h2 : L 2 = some (rv (b 0))) (h3 : L 3 = some (rv o)) (h4 : L 4 = some (iv (6 * (i : Int)))) (hc : cells ≤ 1000 + 20 * i) (hs : slots ≤ 20000 + 1500 * i) : LJ p l e s m bs below meth c D G A cells slots 208 L [] (CW a v g R ds ys ++ ((o, al 1 q) :: RW b w h)) := by
  refine S_aload_n X dL_law_208 rfl h1 ?_
  refine S_arg X hX hbl hA hN hi h0 h4 1 (by decide) dL_law_209 dL_law_210 dL_law_212 dL_law_213 dL_law_214 ?_
  refine S_arg X hX hbl hA hN hi h0 h4 2 (by decide) dL_law_215 dL_law_216 dL_law_218 dL_law_219 dL_law_220 ?_
  refine S_arg X hX hbl hA hN hi h0 h4 3 (by decide) dL_law_221 dL_law_222 dL_law_224 dL_law_225 dL_law_226 ?_
  refine S_arg X hX hbl hA hN hi h0 h4 4 (by decide) dL_law_227 dL_law_228 dL_law_230 dL_law_231 dL_law_232 ?_
  refine S_arg X hX hbl hA hN hi h0 h4 5 (by decide) dL_law_233 dL_law_234 dL_law_236 dL_law_237 dL_law_238 ?_
  refine law_C X (qX11_feed l a v g R ds ys (sc xs i 1) (sc xs i 2) (sc xs i 3) (sc xs i 4) (sc xs i 5) ⟨hI.1.1.1, hI.1.1.2.1⟩) lkL_19 rfl (avs := [iv (sc xs i 1), iv (sc xs i 2), iv (sc xs i 3), iv (sc xs i 4), iv (sc xs i 5)]) (rest := []) rfl rfl (nle rfl) ⟨nle rfl, nle rfl⟩ (by omega) (by omega) dL_law_239 (fun z u hq => ?_)
  refine S_pop X dL_law_242 ?_
  refine S_aload_n X dL_law_243 rfl h2 ?_
  refine S_arg X hX hbl hA hN hi h0 h4 1 (by decide) dL_law_244 dL_law_245 dL_law_247 dL_law_248 dL_law_249 ?_
  refine S_arg X hX hbl hA hN hi h0 h4 2 (by decide) dL_law_250 dL_law_251 dL_law_253 dL_law_254 dL_law_255 ?_
  refine S_arg X hX hbl hA hN hi h0 h4 3 (by decide) dL_law_256 dL_law_257 dL_law_259 dL_law_260 dL_law_261 ?_
  refine S_arg X hX hbl hA hN hi h0 h4 4 (by decide) dL_law_262 dL_law_263 dL_law_265 dL_law_266 dL_law_267 ?_
  refine S_arg X hX hbl hA hN hi h0 h4 5 (by decide) dL_law_268 dL_law_269 dL_law_271 dL_law_272 dL_law_273 ?_
  refine law_R X (qX12_feed l b w h (sc xs i 1) (sc xs i 2) (sc xs i 3) (sc xs i 4) (sc xs i 5) hI.rn) lkL_23 rfl (avs := [iv (sc xs i 1), iv (sc xs i 2), iv (sc xs i 3), iv (sc xs i 4), iv (sc xs i 5)]) (rest := []) rfl rfl (nle rfl) ⟨nle rfl, nle rfl⟩ (by omega) (by omega) dL_law_274 (fun z2 u2 hq2 => ?_)
  obtain ⟨hz, v9, g9, R9, ds9, ys9, w9, h9, rfl, rfl, hI9⟩ := pr_feed hI hq hq2
  refine S_pop X dL_law_277 ?_
  refine S_goto (tgt := 1345) X dL_law_278 (by decide) ?_
  exact law_next X hH hI9 h0 h1 h2 h3 h4 (by omega) (by omega)
set_option maxRecDepth 100000 in
set_option maxHeartbeats 2000000 in
theorem law_k1 (X : Cx p s m #[Value.ref bs] meth c D G A code 7 ret RL) (hU : XU A s s.heap) (hlf : l.stackTraces = false) (hX : va_X bs N xs s s.heap) (hbl : bs < s.heap.size) (hA : ¬ A bs) (hN : N ≤ 3072) (hi : 6 * i + 6 ≤ N) (hH : Hd p l e s m bs below meth c D G A a b o (i + 1)) (hI : Inv v g ds ys w h) (h0 : L 0 = some (rv bs)) (h1 : L 1 = some (rv (a 19))) (h2 : L 2 = some (rv (b 0))) (h3 : L 3 = some (rv o)) (h4 : L 4 = some (iv (6 * (i : Int)))) (hc : cells ≤ 1000 + 20 * i) (hs : slots ≤ 20000 + 1500 * i) : LJ p l e s m bs below meth c D G A cells slots 281 L [] (CW a v g R ds ys ++ ((o, al 1 q) :: RW b w h)) := by
  refine S_aload_n X dL_law_281 rfl h1 ?_
  refine S_arg X hX hbl hA hN hi h0 h4 1 (by decide) dL_law_282 dL_law_283 dL_law_285 dL_law_286 dL_law_287 ?_
  refine law_C X (qX11_end l a v g R ds ys (sc xs i 1) ⟨hI.1.1.1, hI.1.1.2.1⟩ (toInt_inR _)) lkL_24 rfl (avs := [iv (sc xs i 1)]) (rest := []) rfl rfl (nle rfl) ⟨nle rfl, nle rfl⟩ (by omega) (by omega) dL_law_288 (fun z u hq => ?_)
  refine S_pop X dL_law_291 ?_
  refine S_aload_n X dL_law_292 rfl h2 ?_
  refine S_arg X hX hbl hA hN hi h0 h4 1 (by decide) dL_law_293 dL_law_294 dL_law_296 dL_law_297 dL_law_298 ?_
  refine law_R X (qX12_end l b w h (sc xs i 1) hI.rn (toInt_inR _)) lkL_28 rfl (avs := [iv (sc xs i 1)]) (rest := []) rfl rfl (nle rfl) ⟨nle rfl, nle rfl⟩ (by omega) (by omega) dL_law_299 (fun z2 u2 hq2 => ?_)
  obtain ⟨hz, v9, g9, R9, ds9, ys9, w9, h9, rfl, rfl, hI9⟩ := pr_end hI hq hq2
  refine S_pop X dL_law_302 ?_
  refine S_goto (tgt := 1345) X dL_law_303 (by decide) ?_
  exact law_next X hH hI9 h0 h1 h2 h3 h4 (by omega) (by omega)
set_option maxRecDepth 100000 in
set_option maxHeartbeats 2000000 in
theorem law_k2 (X : Cx p s m #[Value.ref bs] meth c D G A code 7 ret RL) (hU : XU A s s.heap) (hlf : l.stackTraces = false) (hX : va_X bs N xs s s.heap) (hbl : bs < s.heap.size) (hA : ¬ A bs) (hN : N ≤ 3072) (hi : 6 * i + 6 ≤ N) (hH : Hd p l e s m bs below meth c D G A a b o (i + 1)) (hI : Inv v g ds ys w h) (h0 : L 0 = some (rv bs)) (h1 : L 1 = some (rv (a 19))) (h2 : L 2 = some (rv (b 0))) (h3 : L 3 = some (rv o)) (h4 : L 4 = some (iv (6 * (i : Int)))) (hc : cells ≤ 1000 + 20 * i) (hs : slots ≤ 20000 + 1500 * i) : LJ p l e s m bs below meth c D G A cells slots 306 L [] (CW a v g R ds ys ++ ((o, al 1 q) :: RW b w h)) := by
  refine S_aload_n X dL_law_306 rfl h1 ?_
  refine S_arg X hX hbl hA hN hi h0 h4 1 (by decide) dL_law_307 dL_law_308 dL_law_310 dL_law_311 dL_law_312 ?_
  refine law_C X (qX11_fault l a v g R ds ys (sc xs i 1) hI.1.1 (toInt_inR _)) lkL_29 rfl (avs := [iv (sc xs i 1)]) (rest := []) rfl rfl (nle rfl) ⟨nle rfl, nle rfl⟩ (by omega) (by omega) dL_law_313 (fun z u hq => ?_)
  refine S_pop X dL_law_316 ?_
  refine S_aload_n X dL_law_317 rfl h2 ?_
  refine S_arg X hX hbl hA hN hi h0 h4 1 (by decide) dL_law_318 dL_law_319 dL_law_321 dL_law_322 dL_law_323 ?_
  refine law_R X (qX12_fault l b w h R (sc xs i 1) hI.rT (toInt_inR _)) lkL_33 rfl (avs := [iv (sc xs i 1)]) (rest := []) rfl rfl (nle rfl) ⟨nle rfl, nle rfl⟩ (by omega) (by omega) dL_law_324 (fun z2 u2 hq2 => ?_)
  obtain ⟨hz, v9, g9, R9, ds9, ys9, w9, h9, rfl, rfl, hI9⟩ := pr_fault hI hq hq2
  refine S_pop X dL_law_327 ?_
  refine S_goto (tgt := 1345) X dL_law_328 (by decide) ?_
  exact law_next X hH hI9 h0 h1 h2 h3 h4 (by omega) (by omega)
set_option maxRecDepth 100000 in
set_option maxHeartbeats 2000000 in
theorem law_k3 (X : Cx p s m #[Value.ref bs] meth c D G A code 7 ret RL) (hU : XU A s s.heap) (hlf : l.stackTraces = false) (hX : va_X bs N xs s s.heap) (hbl : bs < s.heap.size) (hA : ¬ A bs) (hN : N ≤ 3072) (hi : 6 * i + 6 ≤ N) (hH : Hd p l e s m bs below meth c D G A a b o (i + 1)) (hI : Inv v g ds ys w h) (h0 : L 0 = some (rv bs)) (h1 : L 1 = some (rv (a 19))) (h2 : L 2 = some (rv (b 0))) (h3 : L 3 = some (rv o)) (h4 : L 4 = some (iv (6 * (i : Int)))) (hc : cells ≤ 1000 + 20 * i) (hs : slots ≤ 20000 + 1500 * i) : LJ p l e s m bs below meth c D G A cells slots 331 L [] (CW a v g R ds ys ++ ((o, al 1 q) :: RW b w h)) := by
  refine S_aload_n X dL_law_331 rfl h1 ?_
  refine S_arg X hX hbl hA hN hi h0 h4 1 (by decide) dL_law_332 dL_law_333 dL_law_335 dL_law_336 dL_law_337 ?_
  refine law_C X (qX11_text l a v g R ds ys (sc xs i 1) hI.1.1 ⟨hI.1.1.1, hI.1.1.2.1⟩ (toInt_inR _) hI.2.1.1 hI.2.1.2.1) lkL_34 rfl (avs := [iv (sc xs i 1)]) (rest := []) rfl rfl (nle rfl) ⟨nle rfl, nle rfl⟩ (by omega) (by omega) dL_law_338 (fun z u hq => ?_)
  refine S_pop X dL_law_341 ?_
  refine S_aload_n X dL_law_342 rfl h2 ?_
  refine S_arg X hX hbl hA hN hi h0 h4 1 (by decide) dL_law_343 dL_law_344 dL_law_346 dL_law_347 dL_law_348 ?_
  refine law_R X (qX12_text l b w h R (sc xs i 1) hI.rT (toInt_inR _) hI.rlw) lkL_37 rfl (avs := [iv (sc xs i 1)]) (rest := []) rfl rfl (nle rfl) ⟨nle rfl, nle rfl⟩ (by omega) (by omega) dL_law_349 (fun z2 u2 hq2 => ?_)
  obtain ⟨hz, v9, g9, R9, ds9, ys9, w9, h9, rfl, rfl, hI9⟩ := pr_text hI hq hq2
  refine S_pop X dL_law_352 ?_
  refine S_goto (tgt := 1345) X dL_law_353 (by decide) ?_
  exact law_next X hH hI9 h0 h1 h2 h3 h4 (by omega) (by omega)
set_option maxRecDepth 100000 in
set_option maxHeartbeats 2000000 in
theorem law_k4 (X : Cx p s m #[Value.ref bs] meth c D G A code 7 ret RL) (hU : XU A s s.heap) (hlf : l.stackTraces = false) (hX : va_X bs N xs s s.heap) (hbl : bs < s.heap.size) (hA : ¬ A bs) (hN : N ≤ 3072) (hi : 6 * i + 6 ≤ N) (hH : Hd p l e s m bs below meth c D G A a b o (i + 1)) (hI : Inv v g ds ys w h) (h0 : L 0 = some (rv bs)) (h1 : L 1 = some (rv (a 19))) (h2 : L 2 = some (rv (b 0))) (h3 : L 3 = some (rv o)) (h4 : L 4 = some (iv (6 * (i : Int)))) (hc : cells ≤ 1000 + 20 * i) (hs : slots ≤ 20000 + 1500 * i) : LJ p l e s m bs below meth c D G A cells slots 356 L [] (CW a v g R ds ys ++ ((o, al 1 q) :: RW b w h)) := by
  refine S_aload_n X dL_law_356 rfl h1 ?_
  refine S_arg X hX hbl hA hN hi h0 h4 1 (by decide) dL_law_357 dL_law_358 dL_law_360 dL_law_361 dL_law_362 ?_
  refine S_arg X hX hbl hA hN hi h0 h4 2 (by decide) dL_law_363 dL_law_364 dL_law_366 dL_law_367 dL_law_368 ?_
  refine S_aload_n X dL_law_369 rfl h3 ?_
  have e1 : ∀ q9 : Nat → Int64, CW a v g R ds ys ++ ((o, al 1 q9) :: RW b w h) = (CW a v g R ds ys ++ [(o, al 1 q9)]) ++ RW b w h := fun q9 => (List.append_assoc (CW a v g R ds ys) [(o, al 1 q9)] (RW b w h)).symm
  refine S_w (e1 q) ?_
  refine S_callH X hU (kL_player l hlf a v g R ds ys o q (sc xs i 1) (sc xs i 2) hI.pl6 (toInt_inR _) (toInt_inR _)) lkL_pl (avs := [rv (a 19), iv (sc xs i 1), iv (sc xs i 2), rv o]) (rest := []) rfl rfl (nle rfl) ⟨nle rfl, nle rfl⟩ ⟨show cells + 1 ≤ 601024 by omega, show slots + 6 ≤ 7293034 by omega⟩ dL_law_370 (fun z u hq => ?_)
  refine S_istore X dL_law_373 (by decide) ?_
  have hw : ∃ q9 : Nat → Int64, u ++ RW b w h = CW a v g R ds ys ++ ((o, al 1 q9) :: RW b w h) := by
    rcases hq with ⟨-, -, hu⟩ | ⟨-, -, hu⟩
    · exact ⟨_, by rw [hu]; exact (e1 _).symm⟩
    · exact ⟨_, by rw [hu]; exact (e1 _).symm⟩
  obtain ⟨q9, hw⟩ := hw
  refine S_w hw ?_
  refine S_aload_n X dL_law_375 rfl h2 ?_
  refine S_arg X hX hbl hA hN hi (L := uF L 5 (some (iv z))) h0 h4 1 (by decide) dL_law_376 dL_law_377 dL_law_379 dL_law_380 dL_law_381 ?_
  refine S_arg X hX hbl hA hN hi (L := uF L 5 (some (iv z))) h0 h4 2 (by decide) dL_law_382 dL_law_383 dL_law_385 dL_law_386 dL_law_387 ?_
  refine law_R X (qX12_player l b w h (sc xs i 1) (sc xs i 2) hI.rpl (toInt_inR _) (toInt_inR _)) lkL_43 rfl (avs := [iv (sc xs i 1), iv (sc xs i 2)]) (rest := []) rfl rfl (nle rfl) ⟨nle rfl, nle rfl⟩ (by omega) (by omega) dL_law_388 (fun z2 u2 hq2 => ?_)
  obtain ⟨w9, rfl, hI9⟩ := pr_player hI hq2
  refine S_istore X dL_law_391 (by decide) ?_
  refine S_goto (tgt := 1345) X dL_law_393 (by decide) ?_
  exact law_next X hH hI9 h0 h1 h2 h3 h4 (by omega) (by omega)
set_option maxRecDepth 100000 in
set_option maxHeartbeats 2000000 in
theorem law_k5 (X : Cx p s m #[Value.ref bs] meth c D G A code 7 ret RL) (hU : XU A s s.heap) (hlf : l.stackTraces = false) (hX : va_X bs N xs s s.heap) (hbl : bs < s.heap.size) (hA : ¬ A bs) (hN : N ≤ 3072) (hi : 6 * i + 6 ≤ N) (hH : Hd p l e s m bs below meth c D G A a b o (i + 1)) (hI : Inv v g ds ys w h) (h0 : L 0 = some (rv bs)) (h1 : L 1 = some (rv (a 19))) (h2 : L 2 = some (rv (b 0))) (h3 : L 3 = some (rv o)) (h4 : L 4 = some (iv (6 * (i : Int)))) (hc : cells ≤ 1000 + 20 * i) (hs : slots ≤ 20000 + 1500 * i) : LJ p l e s m bs below meth c D G A cells slots 396 L [] (CW a v g R ds ys ++ ((o, al 1 q) :: RW b w h)) := by
  refine S_aload_n X dL_law_396 rfl h1 ?_
  refine S_arg X hX hbl hA hN hi h0 h4 1 (by decide) dL_law_397 dL_law_398 dL_law_400 dL_law_401 dL_law_402 ?_
  refine S_arg X hX hbl hA hN hi h0 h4 2 (by decide) dL_law_403 dL_law_404 dL_law_406 dL_law_407 dL_law_408 ?_
  refine law_C X (qX11_set l a v g R ds ys (sc xs i 1) (sc xs i 2) hI.2.1.1.2 (toInt_inR _) (toInt_inR _)) lkL_44 rfl (avs := [iv (sc xs i 1), iv (sc xs i 2)]) (rest := []) rfl rfl (nle rfl) ⟨nle rfl, nle rfl⟩ (by omega) (by omega) dL_law_409 (fun z u hq => ?_)
  refine S_pop X dL_law_412 ?_
  refine S_aload_n X dL_law_413 rfl h2 ?_
  refine S_arg X hX hbl hA hN hi h0 h4 1 (by decide) dL_law_414 dL_law_415 dL_law_417 dL_law_418 dL_law_419 ?_
  refine S_arg X hX hbl hA hN hi h0 h4 2 (by decide) dL_law_420 dL_law_421 dL_law_423 dL_law_424 dL_law_425 ?_
  refine law_R X (qX12_set l b w h (sc xs i 1) (sc xs i 2) hI.rlw (toInt_inR _) (toInt_inR _)) lkL_48 rfl (avs := [iv (sc xs i 1), iv (sc xs i 2)]) (rest := []) rfl rfl (nle rfl) ⟨nle rfl, nle rfl⟩ (by omega) (by omega) dL_law_426 (fun z2 u2 hq2 => ?_)
  obtain ⟨hz, v9, g9, R9, ds9, ys9, w9, h9, rfl, rfl, hI9⟩ := pr_set hI hq hq2
  refine S_pop X dL_law_429 ?_
  refine S_goto (tgt := 1345) X dL_law_430 (by decide) ?_
  exact law_next X hH hI9 h0 h1 h2 h3 h4 (by omega) (by omega)
set_option maxRecDepth 100000 in
set_option maxHeartbeats 2000000 in
theorem law_k6 (X : Cx p s m #[Value.ref bs] meth c D G A code 7 ret RL) (hU : XU A s s.heap) (hlf : l.stackTraces = false) (hX : va_X bs N xs s s.heap) (hbl : bs < s.heap.size) (hA : ¬ A bs) (hN : N ≤ 3072) (hi : 6 * i + 6 ≤ N) (hH : Hd p l e s m bs below meth c D G A a b o (i + 1)) (hI : Inv v g ds ys w h) (h0 : L 0 = some (rv bs)) (h1 : L 1 = some (rv (a 19))) (h2 : L 2 = some (rv (b 0))) (h3 : L 3 = some (rv o)) (h4 : L 4 = some (iv (6 * (i : Int)))) (hc : cells ≤ 1000 + 20 * i) (hs : slots ≤ 20000 + 1500 * i) : LJ p l e s m bs below meth c D G A cells slots 433 L [] (CW a v g R ds ys ++ ((o, al 1 q) :: RW b w h)) := by
  refine S_aload_n X dL_law_433 rfl h1 ?_
  refine S_arg X hX hbl hA hN hi h0 h4 1 (by decide) dL_law_434 dL_law_435 dL_law_437 dL_law_438 dL_law_439 ?_
  refine S_arg X hX hbl hA hN hi h0 h4 2 (by decide) dL_law_440 dL_law_441 dL_law_443 dL_law_444 dL_law_445 ?_
  refine S_arg X hX hbl hA hN hi h0 h4 3 (by decide) dL_law_446 dL_law_447 dL_law_449 dL_law_450 dL_law_451 ?_
  refine law_C X (qX11_tell l a v g R ds ys (sc xs i 1) (sc xs i 2) (sc xs i 3) hI.pl6 (toInt_inR _) (toInt_inR _) (toInt_inR _)) lkL_49 rfl (avs := [iv (sc xs i 1), iv (sc xs i 2), iv (sc xs i 3)]) (rest := []) rfl rfl (nle rfl) ⟨nle rfl, nle rfl⟩ (by omega) (by omega) dL_law_452 (fun z u hq => ?_)
  refine S_pop X dL_law_455 ?_
  refine S_aload_n X dL_law_456 rfl h2 ?_
  refine S_arg X hX hbl hA hN hi h0 h4 1 (by decide) dL_law_457 dL_law_458 dL_law_460 dL_law_461 dL_law_462 ?_
  refine S_arg X hX hbl hA hN hi h0 h4 2 (by decide) dL_law_463 dL_law_464 dL_law_466 dL_law_467 dL_law_468 ?_
  refine S_arg X hX hbl hA hN hi h0 h4 3 (by decide) dL_law_469 dL_law_470 dL_law_472 dL_law_473 dL_law_474 ?_
  refine law_R X (qX12_tell l b w h (sc xs i 1) (sc xs i 2) (sc xs i 3) hI.rpl (toInt_inR _) (toInt_inR _) (toInt_inR _)) lkL_53 rfl (avs := [iv (sc xs i 1), iv (sc xs i 2), iv (sc xs i 3)]) (rest := []) rfl rfl (nle rfl) ⟨nle rfl, nle rfl⟩ (by omega) (by omega) dL_law_475 (fun z2 u2 hq2 => ?_)
  obtain ⟨hz, v9, g9, R9, ds9, ys9, w9, h9, rfl, rfl, hI9⟩ := pr_tell hI hq hq2
  refine S_pop X dL_law_478 ?_
  refine S_goto (tgt := 1345) X dL_law_479 (by decide) ?_
  exact law_next X hH hI9 h0 h1 h2 h3 h4 (by omega) (by omega)
set_option maxRecDepth 100000 in
set_option maxHeartbeats 2000000 in
theorem law_k7 (X : Cx p s m #[Value.ref bs] meth c D G A code 7 ret RL) (hU : XU A s s.heap) (hlf : l.stackTraces = false) (hX : va_X bs N xs s s.heap) (hbl : bs < s.heap.size) (hA : ¬ A bs) (hN : N ≤ 3072) (hi : 6 * i + 6 ≤ N) (hH : Hd p l e s m bs below meth c D G A a b o (i + 1)) (hI : Inv v g ds ys w h) (h0 : L 0 = some (rv bs)) (h1 : L 1 = some (rv (a 19))) (h2 : L 2 = some (rv (b 0))) (h3 : L 3 = some (rv o)) (h4 : L 4 = some (iv (6 * (i : Int)))) (hc : cells ≤ 1000 + 20 * i) (hs : slots ≤ 20000 + 1500 * i) : LJ p l e s m bs below meth c D G A cells slots 482 L [] (CW a v g R ds ys ++ ((o, al 1 q) :: RW b w h)) := by
  refine S_aload_n X dL_law_482 rfl h1 ?_
  refine S_arg X hX hbl hA hN hi h0 h4 1 (by decide) dL_law_483 dL_law_484 dL_law_486 dL_law_487 dL_law_488 ?_
  refine S_arg X hX hbl hA hN hi h0 h4 2 (by decide) dL_law_489 dL_law_490 dL_law_492 dL_law_493 dL_law_494 ?_
  refine S_if_eq (tgt := 502) X dL_law_495 (by decide) (toInt_inR _) (fun hb => ?_) (fun hb => ?_)
  · refine S_iconst X dL_law_502 ?_
    refine law_C X (qX11_mark l a v g R ds ys (sc xs i 1) (0) hI.pl6 (toInt_inR _) (Or.inl rfl)) lkL_54 rfl (avs := [iv (sc xs i 1), iv (0)]) (rest := []) rfl rfl (nle rfl) ⟨nle rfl, nle rfl⟩ (by omega) (by omega) dL_law_503 (fun z u hq => ?_)
    refine S_pop X dL_law_506 ?_
    refine S_aload_n X dL_law_507 rfl h2 ?_
    refine S_arg X hX hbl hA hN hi h0 h4 1 (by decide) dL_law_508 dL_law_509 dL_law_511 dL_law_512 dL_law_513 ?_
    refine S_arg X hX hbl hA hN hi h0 h4 2 (by decide) dL_law_514 dL_law_515 dL_law_517 dL_law_518 dL_law_519 ?_
    refine S_if_eq (tgt := 527) X dL_law_520 (by decide) (toInt_inR _) (fun _ => ?_) (fun h9 => absurd hb h9)
    refine S_iconst X dL_law_527 ?_
    refine law_R X (qX12_mark l b w h (sc xs i 1) (0) hI.rpl (toInt_inR _) (Or.inl rfl)) lkL_58 rfl (avs := [iv (sc xs i 1), iv (0)]) (rest := []) rfl rfl (nle rfl) ⟨nle rfl, nle rfl⟩ (by omega) (by omega) dL_law_528 (fun z2 u2 hq2 => ?_)
    obtain ⟨hz, v9, g9, R9, ds9, ys9, w9, h9, rfl, rfl, hI9⟩ := pr_mark hI hq hq2
    refine S_pop X dL_law_531 ?_
    refine S_goto (tgt := 1345) X dL_law_532 (by decide) ?_
    exact law_next X hH hI9 h0 h1 h2 h3 h4 (by omega) (by omega)
  · refine S_iconst X dL_law_498 ?_
    refine S_goto (tgt := 503) X dL_law_499 (by decide) ?_
    refine law_C X (qX11_mark l a v g R ds ys (sc xs i 1) (1) hI.pl6 (toInt_inR _) (Or.inr rfl)) lkL_54 rfl (avs := [iv (sc xs i 1), iv (1)]) (rest := []) rfl rfl (nle rfl) ⟨nle rfl, nle rfl⟩ (by omega) (by omega) dL_law_503 (fun z u hq => ?_)
    refine S_pop X dL_law_506 ?_
    refine S_aload_n X dL_law_507 rfl h2 ?_
    refine S_arg X hX hbl hA hN hi h0 h4 1 (by decide) dL_law_508 dL_law_509 dL_law_511 dL_law_512 dL_law_513 ?_
    refine S_arg X hX hbl hA hN hi h0 h4 2 (by decide) dL_law_514 dL_law_515 dL_law_517 dL_law_518 dL_law_519 ?_
    refine S_if_eq (tgt := 527) X dL_law_520 (by decide) (toInt_inR _) (fun h9 => absurd h9 hb) (fun _ => ?_)
    refine S_iconst X dL_law_523 ?_
    refine S_goto (tgt := 528) X dL_law_524 (by decide) ?_
    refine law_R X (qX12_mark l b w h (sc xs i 1) (1) hI.rpl (toInt_inR _) (Or.inr rfl)) lkL_58 rfl (avs := [iv (sc xs i 1), iv (1)]) (rest := []) rfl rfl (nle rfl) ⟨nle rfl, nle rfl⟩ (by omega) (by omega) dL_law_528 (fun z2 u2 hq2 => ?_)
    obtain ⟨hz, v9, g9, R9, ds9, ys9, w9, h9, rfl, rfl, hI9⟩ := pr_mark hI hq hq2
    refine S_pop X dL_law_531 ?_
    refine S_goto (tgt := 1345) X dL_law_532 (by decide) ?_
    exact law_next X hH hI9 h0 h1 h2 h3 h4 (by omega) (by omega)
set_option maxRecDepth 100000 in
set_option maxHeartbeats 2000000 in
theorem law_k8 (X : Cx p s m #[Value.ref bs] meth c D G A code 7 ret RL) (hU : XU A s s.heap) (hlf : l.stackTraces = false) (hX : va_X bs N xs s s.heap) (hbl : bs < s.heap.size) (hA : ¬ A bs) (hN : N ≤ 3072) (hi : 6 * i + 6 ≤ N) (hH : Hd p l e s m bs below meth c D G A a b o (i + 1)) (hI : Inv v g ds ys w h) (h0 : L 0 = some (rv bs)) (h1 : L 1 = some (rv (a 19))) (h2 : L 2 = some (rv (b 0))) (h3 : L 3 = some (rv o)) (h4 : L 4 = some (iv (6 * (i : Int)))) (hc : cells ≤ 1000 + 20 * i) (hs : slots ≤ 20000 + 1500 * i) : LJ p l e s m bs below meth c D G A cells slots 535 L [] (CW a v g R ds ys ++ ((o, al 1 q) :: RW b w h)) := by
  refine S_aload_n X dL_law_535 rfl h1 ?_
  refine S_arg X hX hbl hA hN hi h0 h4 1 (by decide) dL_law_536 dL_law_537 dL_law_539 dL_law_540 dL_law_541 ?_
  refine law_C X (qX11_damp l a v g R ds ys (sc xs i 1) hI.pl6 hI.cmt hI.2.1.1 hI.2.1.2.1 hI.2.1.2.2.1 (toInt_inR _)) lkL_59 rfl (avs := [iv (sc xs i 1)]) (rest := []) rfl rfl (nle rfl) ⟨nle rfl, nle rfl⟩ (by omega) (by omega) dL_law_542 (fun z u hq => ?_)
  refine S_pop X dL_law_545 ?_
  refine S_aload_n X dL_law_546 rfl h2 ?_
  refine S_arg X hX hbl hA hN hi h0 h4 1 (by decide) dL_law_547 dL_law_548 dL_law_550 dL_law_551 dL_law_552 ?_
  refine law_R X (qW12_damp l b (sc xs i 1) (toInt_inR _) hI) lkL_62 rfl (avs := [iv (sc xs i 1)]) (rest := []) rfl rfl (nle rfl) ⟨nle rfl, nle rfl⟩ (by omega) (by omega) dL_law_553 (fun z2 u2 hq2 => ?_)
  obtain ⟨hz, v9, g9, R9, ds9, ys9, w9, h9, rfl, rfl, hI9⟩ := pr_damp hI hq hq2
  refine S_pop X dL_law_556 ?_
  refine S_goto (tgt := 1345) X dL_law_557 (by decide) ?_
  exact law_next X hH hI9 h0 h1 h2 h3 h4 (by omega) (by omega)
set_option maxRecDepth 100000 in
set_option maxHeartbeats 2000000 in
theorem law_k9 (X : Cx p s m #[Value.ref bs] meth c D G A code 7 ret RL) (hU : XU A s s.heap) (hlf : l.stackTraces = false) (hX : va_X bs N xs s s.heap) (hbl : bs < s.heap.size) (hA : ¬ A bs) (hN : N ≤ 3072) (hi : 6 * i + 6 ≤ N) (hH : Hd p l e s m bs below meth c D G A a b o (i + 1)) (hI : Inv v g ds ys w h) (h0 : L 0 = some (rv bs)) (h1 : L 1 = some (rv (a 19))) (h2 : L 2 = some (rv (b 0))) (h3 : L 3 = some (rv o)) (h4 : L 4 = some (iv (6 * (i : Int)))) (hc : cells ≤ 1000 + 20 * i) (hs : slots ≤ 20000 + 1500 * i) : LJ p l e s m bs below meth c D G A cells slots 560 L [] (CW a v g R ds ys ++ ((o, al 1 q) :: RW b w h)) := by
  refine S_aload_n X dL_law_560 rfl h1 ?_
  refine S_arg X hX hbl hA hN hi h0 h4 1 (by decide) dL_law_561 dL_law_562 dL_law_564 dL_law_565 dL_law_566 ?_
  refine law_C X (qX11_day l a v g R ds ys (sc xs i 1) hI.pl6 hI.cdy (okZ_b hI.2.2.1.1) hI.2.1.1 hI.2.1.2.1 hI.2.1.2.2.1 hI.2.2.2.2.1.1 hI.2.2.2.2.1.2.1 hI.ctd (toInt_inR _)) lkL_63 rfl (avs := [iv (sc xs i 1)]) (rest := []) rfl rfl (nle rfl) ⟨nle rfl, nle rfl⟩ (by omega) (by omega) dL_law_567 (fun z u hq => ?_)
  refine S_pop X dL_law_570 ?_
  refine S_aload_n X dL_law_571 rfl h2 ?_
  refine S_arg X hX hbl hA hN hi h0 h4 1 (by decide) dL_law_572 dL_law_573 dL_law_575 dL_law_576 dL_law_577 ?_
  refine law_R X (qW12_day l b (sc xs i 1) (toInt_inR _) hI) lkL_66 rfl (avs := [iv (sc xs i 1)]) (rest := []) rfl rfl (nle rfl) ⟨nle rfl, nle rfl⟩ (by omega) (by omega) dL_law_578 (fun z2 u2 hq2 => ?_)
  obtain ⟨hz, v9, g9, R9, ds9, ys9, w9, h9, rfl, rfl, hI9⟩ := pr_day hI hq hq2
  refine S_pop X dL_law_581 ?_
  refine S_goto (tgt := 1345) X dL_law_582 (by decide) ?_
  exact law_next X hH hI9 h0 h1 h2 h3 h4 (by omega) (by omega)
set_option maxRecDepth 100000 in
set_option maxHeartbeats 2000000 in
theorem law_k10 (X : Cx p s m #[Value.ref bs] meth c D G A code 7 ret RL) (hU : XU A s s.heap) (hlf : l.stackTraces = false) (hX : va_X bs N xs s s.heap) (hbl : bs < s.heap.size) (hA : ¬ A bs) (hN : N ≤ 3072) (hi : 6 * i + 6 ≤ N) (hH : Hd p l e s m bs below meth c D G A a b o (i + 1)) (hI : Inv v g ds ys w h) (h0 : L 0 = some (rv bs)) (h1 : L 1 = some (rv (a 19))) (h2 : L 2 = some (rv (b 0))) (h3 : L 3 = some (rv o)) (h4 : L 4 = some (iv (6 * (i : Int)))) (hc : cells ≤ 1000 + 20 * i) (hs : slots ≤ 20000 + 1500 * i) : LJ p l e s m bs below meth c D G A cells slots 585 L [] (CW a v g R ds ys ++ ((o, al 1 q) :: RW b w h)) := by
  refine S_aload_n X dL_law_585 rfl h1 ?_
  refine law_C X (qX11_undo l a v g R ds ys hI.2.2.2.2.1.1 hI.2.2.2.2.1.2.1) lkL_67 rfl (avs := []) (rest := []) rfl rfl (nle rfl) ⟨nle rfl, nle rfl⟩ (by omega) (by omega) dL_law_586 (fun z u hq => ?_)
  refine S_pop X dL_law_589 ?_
  refine S_aload_n X dL_law_590 rfl h2 ?_
  refine law_R X (qX12_undo l b w h hI.rac) lkL_71 rfl (avs := []) (rest := []) rfl rfl (nle rfl) ⟨nle rfl, nle rfl⟩ (by omega) (by omega) dL_law_591 (fun z2 u2 hq2 => ?_)
  obtain ⟨hz, v9, g9, R9, ds9, ys9, w9, h9, rfl, rfl, hI9⟩ := pr_undo hI hq hq2
  refine S_pop X dL_law_594 ?_
  refine S_goto (tgt := 1345) X dL_law_595 (by decide) ?_
  exact law_next X hH hI9 h0 h1 h2 h3 h4 (by omega) (by omega)
set_option maxRecDepth 100000 in
set_option maxHeartbeats 2000000 in
theorem law_k11 (X : Cx p s m #[Value.ref bs] meth c D G A code 7 ret RL) (hU : XU A s s.heap) (hlf : l.stackTraces = false) (hX : va_X bs N xs s s.heap) (hbl : bs < s.heap.size) (hA : ¬ A bs) (hN : N ≤ 3072) (hi : 6 * i + 6 ≤ N) (hH : Hd p l e s m bs below meth c D G A a b o (i + 1)) (hI : Inv v g ds ys w h) (h0 : L 0 = some (rv bs)) (h1 : L 1 = some (rv (a 19))) (h2 : L 2 = some (rv (b 0))) (h3 : L 3 = some (rv o)) (h4 : L 4 = some (iv (6 * (i : Int)))) (hc : cells ≤ 1000 + 20 * i) (hs : slots ≤ 20000 + 1500 * i) : LJ p l e s m bs below meth c D G A cells slots 598 L [] (CW a v g R ds ys ++ ((o, al 1 q) :: RW b w h)) := by
  refine S_aload_n X dL_law_598 rfl h1 ?_
  refine S_arg X hX hbl hA hN hi h0 h4 1 (by decide) dL_law_599 dL_law_600 dL_law_602 dL_law_603 dL_law_604 ?_
  refine S_arg X hX hbl hA hN hi h0 h4 2 (by decide) dL_law_605 dL_law_606 dL_law_608 dL_law_609 dL_law_610 ?_
  refine S_arg X hX hbl hA hN hi h0 h4 3 (by decide) dL_law_611 dL_law_612 dL_law_614 dL_law_615 dL_law_616 ?_
  refine law_C X (qX11_time l a v g R ds ys (sc xs i 1) (sc xs i 2) (sc xs i 3) hI.2.2.1.1 (toInt_inR _) (toInt_inR _) (toInt_inR _)) lkL_72 rfl (avs := [iv (sc xs i 1), iv (sc xs i 2), iv (sc xs i 3)]) (rest := []) rfl rfl (nle rfl) ⟨nle rfl, nle rfl⟩ (by omega) (by omega) dL_law_617 (fun z u hq => ?_)
  refine S_pop X dL_law_620 ?_
  refine S_aload_n X dL_law_621 rfl h2 ?_
  refine S_arg X hX hbl hA hN hi h0 h4 1 (by decide) dL_law_622 dL_law_623 dL_law_625 dL_law_626 dL_law_627 ?_
  refine S_arg X hX hbl hA hN hi h0 h4 2 (by decide) dL_law_628 dL_law_629 dL_law_631 dL_law_632 dL_law_633 ?_
  refine S_arg X hX hbl hA hN hi h0 h4 3 (by decide) dL_law_634 dL_law_635 dL_law_637 dL_law_638 dL_law_639 ?_
  refine law_R X (qX12_time l b w h (sc xs i 1) (sc xs i 2) (sc xs i 3) hI.rz (toInt_inR _) (toInt_inR _) (toInt_inR _)) lkL_76 rfl (avs := [iv (sc xs i 1), iv (sc xs i 2), iv (sc xs i 3)]) (rest := []) rfl rfl (nle rfl) ⟨nle rfl, nle rfl⟩ (by omega) (by omega) dL_law_640 (fun z2 u2 hq2 => ?_)
  obtain ⟨v9, g9, R9, ds9, ys9, w9, h9, rfl, rfl, hI9⟩ := pr_time hI hq hq2
  refine S_pop X dL_law_643 ?_
  refine S_goto (tgt := 1345) X dL_law_644 (by decide) ?_
  exact law_next X hH hI9 h0 h1 h2 h3 h4 (by omega) (by omega)
set_option maxRecDepth 100000 in
set_option maxHeartbeats 2000000 in
theorem law_k12 (X : Cx p s m #[Value.ref bs] meth c D G A code 7 ret RL) (hU : XU A s s.heap) (hlf : l.stackTraces = false) (hX : va_X bs N xs s s.heap) (hbl : bs < s.heap.size) (hA : ¬ A bs) (hN : N ≤ 3072) (hi : 6 * i + 6 ≤ N) (hH : Hd p l e s m bs below meth c D G A a b o (i + 1)) (hI : Inv v g ds ys w h) (h0 : L 0 = some (rv bs)) (h1 : L 1 = some (rv (a 19))) (h2 : L 2 = some (rv (b 0))) (h3 : L 3 = some (rv o)) (h4 : L 4 = some (iv (6 * (i : Int)))) (hc : cells ≤ 1000 + 20 * i) (hs : slots ≤ 20000 + 1500 * i) : LJ p l e s m bs below meth c D G A cells slots 647 L [] (CW a v g R ds ys ++ ((o, al 1 q) :: RW b w h)) := by
  refine S_aload_n X dL_law_647 rfl h1 ?_
  refine S_arg X hX hbl hA hN hi h0 h4 1 (by decide) dL_law_648 dL_law_649 dL_law_651 dL_law_652 dL_law_653 ?_
  refine law_C X (qX11_spread l a v g R ds ys (sc xs i 1) hI.2.2.1.1 (toInt_inR _)) lkL_77 rfl (avs := [iv (sc xs i 1)]) (rest := []) rfl rfl (nle rfl) ⟨nle rfl, nle rfl⟩ (by omega) (by omega) dL_law_654 (fun z u hq => ?_)
  refine S_pop X dL_law_657 ?_
  refine S_aload_n X dL_law_658 rfl h2 ?_
  refine S_arg X hX hbl hA hN hi h0 h4 1 (by decide) dL_law_659 dL_law_660 dL_law_662 dL_law_663 dL_law_664 ?_
  refine law_R X (qX12_spread l b w h (sc xs i 1) hI.rz (toInt_inR _)) lkL_80 rfl (avs := [iv (sc xs i 1)]) (rest := []) rfl rfl (nle rfl) ⟨nle rfl, nle rfl⟩ (by omega) (by omega) dL_law_665 (fun z2 u2 hq2 => ?_)
  obtain ⟨v9, g9, R9, ds9, ys9, w9, h9, rfl, rfl, hI9⟩ := pr_spread hI hq hq2
  refine S_pop X dL_law_668 ?_
  refine S_goto (tgt := 1345) X dL_law_669 (by decide) ?_
  exact law_next X hH hI9 h0 h1 h2 h3 h4 (by omega) (by omega)
set_option maxRecDepth 100000 in
set_option maxHeartbeats 2000000 in
theorem law_k13 (X : Cx p s m #[Value.ref bs] meth c D G A code 7 ret RL) (hU : XU A s s.heap) (hlf : l.stackTraces = false) (hX : va_X bs N xs s s.heap) (hbl : bs < s.heap.size) (hA : ¬ A bs) (hN : N ≤ 3072) (hi : 6 * i + 6 ≤ N) (hH : Hd p l e s m bs below meth c D G A a b o (i + 1)) (hI : Inv v g ds ys w h) (h0 : L 0 = some (rv bs)) (h1 : L 1 = some (rv (a 19))) (h2 : L 2 = some (rv (b 0))) (h3 : L 3 = some (rv o)) (h4 : L 4 = some (iv (6 * (i : Int)))) (hc : cells ≤ 1000 + 20 * i) (hs : slots ≤ 20000 + 1500 * i) : LJ p l e s m bs below meth c D G A cells slots 672 L [] (CW a v g R ds ys ++ ((o, al 1 q) :: RW b w h)) := by
  refine S_aload_n X dL_law_672 rfl h1 ?_
  refine S_arg X hX hbl hA hN hi h0 h4 1 (by decide) dL_law_673 dL_law_674 dL_law_676 dL_law_677 dL_law_678 ?_
  refine law_C X (qX11_worst l a v g R ds ys (sc xs i 1) hI.2.2.1.1 (toInt_inR _)) lkL_81 rfl (avs := [iv (sc xs i 1)]) (rest := []) rfl rfl (nle rfl) ⟨nle rfl, nle rfl⟩ (by omega) (by omega) dL_law_679 (fun z u hq => ?_)
  refine S_pop X dL_law_682 ?_
  refine S_aload_n X dL_law_683 rfl h2 ?_
  refine S_arg X hX hbl hA hN hi h0 h4 1 (by decide) dL_law_684 dL_law_685 dL_law_687 dL_law_688 dL_law_689 ?_
  refine law_R X (qX12_worst l b w h (sc xs i 1) hI.rz (toInt_inR _)) lkL_84 rfl (avs := [iv (sc xs i 1)]) (rest := []) rfl rfl (nle rfl) ⟨nle rfl, nle rfl⟩ (by omega) (by omega) dL_law_690 (fun z2 u2 hq2 => ?_)
  obtain ⟨v9, g9, R9, ds9, ys9, w9, h9, rfl, rfl, hI9⟩ := pr_worst hI hq hq2
  refine S_pop X dL_law_693 ?_
  refine S_goto (tgt := 1345) X dL_law_694 (by decide) ?_
  exact law_next X hH hI9 h0 h1 h2 h3 h4 (by omega) (by omega)
set_option maxRecDepth 100000 in
set_option maxHeartbeats 2000000 in
theorem law_k14 (X : Cx p s m #[Value.ref bs] meth c D G A code 7 ret RL) (hU : XU A s s.heap) (hlf : l.stackTraces = false) (hX : va_X bs N xs s s.heap) (hbl : bs < s.heap.size) (hA : ¬ A bs) (hN : N ≤ 3072) (hi : 6 * i + 6 ≤ N) (hH : Hd p l e s m bs below meth c D G A a b o (i + 1)) (hI : Inv v g ds ys w h) (h0 : L 0 = some (rv bs)) (h1 : L 1 = some (rv (a 19))) (h2 : L 2 = some (rv (b 0))) (h3 : L 3 = some (rv o)) (h4 : L 4 = some (iv (6 * (i : Int)))) (hc : cells ≤ 1000 + 20 * i) (hs : slots ≤ 20000 + 1500 * i) : LJ p l e s m bs below meth c D G A cells slots 697 L [] (CW a v g R ds ys ++ ((o, al 1 q) :: RW b w h)) := by
  refine S_aload_n X dL_law_697 rfl h1 ?_
  refine law_C X (qX11_parts l a v g R ds ys hI.2.2.1.1 hI.2.2.1.2.1) lkL_85 rfl (avs := []) (rest := []) rfl rfl (nle rfl) ⟨nle rfl, nle rfl⟩ (by omega) (by omega) dL_law_698 (fun z u hq => ?_)
  refine S_pop X dL_law_701 ?_
  refine S_aload_n X dL_law_702 rfl h2 ?_
  refine law_R X (qX12_parts l b w h hI.rz hI.rlim) lkL_88 rfl (avs := []) (rest := []) rfl rfl (nle rfl) ⟨nle rfl, nle rfl⟩ (by omega) (by omega) dL_law_703 (fun z2 u2 hq2 => ?_)
  obtain ⟨v9, g9, R9, ds9, ys9, w9, h9, rfl, rfl, hI9⟩ := pr_parts hI hq hq2
  refine S_pop X dL_law_706 ?_
  refine S_goto (tgt := 1345) X dL_law_707 (by decide) ?_
  exact law_next X hH hI9 h0 h1 h2 h3 h4 (by omega) (by omega)
set_option maxRecDepth 100000 in
set_option maxHeartbeats 2000000 in
theorem law_k15 (X : Cx p s m #[Value.ref bs] meth c D G A code 7 ret RL) (hU : XU A s s.heap) (hlf : l.stackTraces = false) (hX : va_X bs N xs s s.heap) (hbl : bs < s.heap.size) (hA : ¬ A bs) (hN : N ≤ 3072) (hi : 6 * i + 6 ≤ N) (hH : Hd p l e s m bs below meth c D G A a b o (i + 1)) (hI : Inv v g ds ys w h) (h0 : L 0 = some (rv bs)) (h1 : L 1 = some (rv (a 19))) (h2 : L 2 = some (rv (b 0))) (h3 : L 3 = some (rv o)) (h4 : L 4 = some (iv (6 * (i : Int)))) (hc : cells ≤ 1000 + 20 * i) (hs : slots ≤ 20000 + 1500 * i) : LJ p l e s m bs below meth c D G A cells slots 710 L [] (CW a v g R ds ys ++ ((o, al 1 q) :: RW b w h)) := by
  refine S_aload_n X dL_law_710 rfl h1 ?_
  refine S_arg X hX hbl hA hN hi h0 h4 1 (by decide) dL_law_711 dL_law_712 dL_law_714 dL_law_715 dL_law_716 ?_
  refine law_C X (qX11_last l a v g R ds ys (sc xs i 1) hI.2.2.1.1 (toInt_inR _)) lkL_89 rfl (avs := [iv (sc xs i 1)]) (rest := []) rfl rfl (nle rfl) ⟨nle rfl, nle rfl⟩ (by omega) (by omega) dL_law_717 (fun z u hq => ?_)
  refine S_pop X dL_law_720 ?_
  refine S_aload_n X dL_law_721 rfl h2 ?_
  refine S_arg X hX hbl hA hN hi h0 h4 1 (by decide) dL_law_722 dL_law_723 dL_law_725 dL_law_726 dL_law_727 ?_
  refine law_R X (qX12_last l b w h (sc xs i 1) hI.rz (toInt_inR _)) lkL_92 rfl (avs := [iv (sc xs i 1)]) (rest := []) rfl rfl (nle rfl) ⟨nle rfl, nle rfl⟩ (by omega) (by omega) dL_law_728 (fun z2 u2 hq2 => ?_)
  obtain ⟨v9, g9, R9, ds9, ys9, w9, h9, rfl, rfl, hI9⟩ := pr_last hI hq hq2
  refine S_pop X dL_law_731 ?_
  refine S_goto (tgt := 1345) X dL_law_732 (by decide) ?_
  exact law_next X hH hI9 h0 h1 h2 h3 h4 (by omega) (by omega)
set_option maxRecDepth 100000 in
set_option maxHeartbeats 2000000 in
theorem law_k16 (X : Cx p s m #[Value.ref bs] meth c D G A code 7 ret RL) (hU : XU A s s.heap) (hlf : l.stackTraces = false) (hX : va_X bs N xs s s.heap) (hbl : bs < s.heap.size) (hA : ¬ A bs) (hN : N ≤ 3072) (hi : 6 * i + 6 ≤ N) (hH : Hd p l e s m bs below meth c D G A a b o (i + 1)) (hI : Inv v g ds ys w h) (h0 : L 0 = some (rv bs)) (h1 : L 1 = some (rv (a 19))) (h2 : L 2 = some (rv (b 0))) (h3 : L 3 = some (rv o)) (h4 : L 4 = some (iv (6 * (i : Int)))) (hc : cells ≤ 1000 + 20 * i) (hs : slots ≤ 20000 + 1500 * i) : LJ p l e s m bs below meth c D G A cells slots 735 L [] (CW a v g R ds ys ++ ((o, al 1 q) :: RW b w h)) := by
  refine S_aload_n X dL_law_735 rfl h1 ?_
  refine S_arg X hX hbl hA hN hi h0 h4 1 (by decide) dL_law_736 dL_law_737 dL_law_739 dL_law_740 dL_law_741 ?_
  refine law_C X (qX11_settle l a v g R ds ys (sc xs i 1) hI.2.2.1.1 (toInt_inR _)) lkL_93 rfl (avs := [iv (sc xs i 1)]) (rest := []) rfl rfl (nle rfl) ⟨nle rfl, nle rfl⟩ (by omega) (by omega) dL_law_742 (fun z u hq => ?_)
  refine S_pop X dL_law_745 ?_
  refine S_aload_n X dL_law_746 rfl h2 ?_
  refine S_arg X hX hbl hA hN hi h0 h4 1 (by decide) dL_law_747 dL_law_748 dL_law_750 dL_law_751 dL_law_752 ?_
  refine law_R X (qX12_settle l b w h (sc xs i 1) hI.rz (toInt_inR _)) lkL_96 rfl (avs := [iv (sc xs i 1)]) (rest := []) rfl rfl (nle rfl) ⟨nle rfl, nle rfl⟩ (by omega) (by omega) dL_law_753 (fun z2 u2 hq2 => ?_)
  obtain ⟨v9, g9, R9, ds9, ys9, w9, h9, rfl, rfl, hI9⟩ := pr_settle hI hq hq2
  refine S_pop X dL_law_756 ?_
  refine S_goto (tgt := 1345) X dL_law_757 (by decide) ?_
  exact law_next X hH hI9 h0 h1 h2 h3 h4 (by omega) (by omega)
set_option maxRecDepth 100000 in
set_option maxHeartbeats 2000000 in
theorem law_k17 (X : Cx p s m #[Value.ref bs] meth c D G A code 7 ret RL) (hU : XU A s s.heap) (hlf : l.stackTraces = false) (hX : va_X bs N xs s s.heap) (hbl : bs < s.heap.size) (hA : ¬ A bs) (hN : N ≤ 3072) (hi : 6 * i + 6 ≤ N) (hH : Hd p l e s m bs below meth c D G A a b o (i + 1)) (hI : Inv v g ds ys w h) (h0 : L 0 = some (rv bs)) (h1 : L 1 = some (rv (a 19))) (h2 : L 2 = some (rv (b 0))) (h3 : L 3 = some (rv o)) (h4 : L 4 = some (iv (6 * (i : Int)))) (hc : cells ≤ 1000 + 20 * i) (hs : slots ≤ 20000 + 1500 * i) : LJ p l e s m bs below meth c D G A cells slots 760 L [] (CW a v g R ds ys ++ ((o, al 1 q) :: RW b w h)) := by
  refine S_aload_n X dL_law_760 rfl h1 ?_
  refine S_arg X hX hbl hA hN hi h0 h4 1 (by decide) dL_law_761 dL_law_762 dL_law_764 dL_law_765 dL_law_766 ?_
  refine law_C X (qX11_ring l a v g R ds ys (sc xs i 1) hI.2.2.1.1 (toInt_inR _)) lkL_97 rfl (avs := [iv (sc xs i 1)]) (rest := []) rfl rfl (nle rfl) ⟨nle rfl, nle rfl⟩ (by omega) (by omega) dL_law_767 (fun z u hq => ?_)
  refine S_pop X dL_law_770 ?_
  refine S_aload_n X dL_law_771 rfl h2 ?_
  refine S_arg X hX hbl hA hN hi h0 h4 1 (by decide) dL_law_772 dL_law_773 dL_law_775 dL_law_776 dL_law_777 ?_
  refine law_R X (qX12_ring l b w h (sc xs i 1) hI.rz (toInt_inR _)) lkL_100 rfl (avs := [iv (sc xs i 1)]) (rest := []) rfl rfl (nle rfl) ⟨nle rfl, nle rfl⟩ (by omega) (by omega) dL_law_778 (fun z2 u2 hq2 => ?_)
  obtain ⟨v9, g9, R9, ds9, ys9, w9, h9, rfl, rfl, hI9⟩ := pr_ring hI hq hq2
  refine S_pop X dL_law_781 ?_
  refine S_goto (tgt := 1345) X dL_law_782 (by decide) ?_
  exact law_next X hH hI9 h0 h1 h2 h3 h4 (by omega) (by omega)
set_option maxRecDepth 100000 in
set_option maxHeartbeats 2000000 in
theorem law_k18 (X : Cx p s m #[Value.ref bs] meth c D G A code 7 ret RL) (hU : XU A s s.heap) (hlf : l.stackTraces = false) (hX : va_X bs N xs s s.heap) (hbl : bs < s.heap.size) (hA : ¬ A bs) (hN : N ≤ 3072) (hi : 6 * i + 6 ≤ N) (hH : Hd p l e s m bs below meth c D G A a b o (i + 1)) (hI : Inv v g ds ys w h) (h0 : L 0 = some (rv bs)) (h1 : L 1 = some (rv (a 19))) (h2 : L 2 = some (rv (b 0))) (h3 : L 3 = some (rv o)) (h4 : L 4 = some (iv (6 * (i : Int)))) (hc : cells ≤ 1000 + 20 * i) (hs : slots ≤ 20000 + 1500 * i) : LJ p l e s m bs below meth c D G A cells slots 785 L [] (CW a v g R ds ys ++ ((o, al 1 q) :: RW b w h)) := by
  refine S_aload_n X dL_law_785 rfl h1 ?_
  refine S_arg X hX hbl hA hN hi h0 h4 1 (by decide) dL_law_786 dL_law_787 dL_law_789 dL_law_790 dL_law_791 ?_
  refine law_C X (qX11_head l a v g R ds ys (sc xs i 1) hI.2.2.1.1 (toInt_inR _)) lkL_101 rfl (avs := [iv (sc xs i 1)]) (rest := []) rfl rfl (nle rfl) ⟨nle rfl, nle rfl⟩ (by omega) (by omega) dL_law_792 (fun z u hq => ?_)
  refine S_pop X dL_law_795 ?_
  refine S_aload_n X dL_law_796 rfl h2 ?_
  refine S_arg X hX hbl hA hN hi h0 h4 1 (by decide) dL_law_797 dL_law_798 dL_law_800 dL_law_801 dL_law_802 ?_
  refine law_R X (qX12_head l b w h (sc xs i 1) hI.rz (toInt_inR _)) lkL_104 rfl (avs := [iv (sc xs i 1)]) (rest := []) rfl rfl (nle rfl) ⟨nle rfl, nle rfl⟩ (by omega) (by omega) dL_law_803 (fun z2 u2 hq2 => ?_)
  obtain ⟨v9, g9, R9, ds9, ys9, w9, h9, rfl, rfl, hI9⟩ := pr_head hI hq hq2
  refine S_pop X dL_law_806 ?_
  refine S_goto (tgt := 1345) X dL_law_807 (by decide) ?_
  exact law_next X hH hI9 h0 h1 h2 h3 h4 (by omega) (by omega)
set_option maxRecDepth 100000 in
set_option maxHeartbeats 2000000 in
theorem law_k19 (X : Cx p s m #[Value.ref bs] meth c D G A code 7 ret RL) (hU : XU A s s.heap) (hlf : l.stackTraces = false) (hX : va_X bs N xs s s.heap) (hbl : bs < s.heap.size) (hA : ¬ A bs) (hN : N ≤ 3072) (hi : 6 * i + 6 ≤ N) (hH : Hd p l e s m bs below meth c D G A a b o (i + 1)) (hI : Inv v g ds ys w h) (h0 : L 0 = some (rv bs)) (h1 : L 1 = some (rv (a 19))) (h2 : L 2 = some (rv (b 0))) (h3 : L 3 = some (rv o)) (h4 : L 4 = some (iv (6 * (i : Int)))) (hc : cells ≤ 1000 + 20 * i) (hs : slots ≤ 20000 + 1500 * i) : LJ p l e s m bs below meth c D G A cells slots 810 L [] (CW a v g R ds ys ++ ((o, al 1 q) :: RW b w h)) := by
  refine S_aload_n X dL_law_810 rfl h1 ?_
  refine S_arg X hX hbl hA hN hi h0 h4 1 (by decide) dL_law_811 dL_law_812 dL_law_814 dL_law_815 dL_law_816 ?_
  refine law_C X (qX11_week l a v g R ds ys (sc xs i 1) hI.2.2.1.1 (toInt_inR _) hI.cdy hI.2.1.1 hI.2.1.2.1 hI.2.1.2.2.1 hI.ctd hI.2.2.2.2.2.2.2.1 hI.2.2.2.2.2.2.2.2.1 hI.2.2.2.2.2.2.2.2.2) lkL_105 rfl (avs := [iv (sc xs i 1)]) (rest := []) rfl rfl (nle rfl) ⟨nle rfl, nle rfl⟩ (by omega) (by omega) dL_law_817 (fun z u hq => ?_)
  refine S_pop X dL_law_820 ?_
  refine S_aload_n X dL_law_821 rfl h2 ?_
  refine S_arg X hX hbl hA hN hi h0 h4 1 (by decide) dL_law_822 dL_law_823 dL_law_825 dL_law_826 dL_law_827 ?_
  refine law_R X (qW12_week l b (sc xs i 1) (toInt_inR _) hI) lkL_108 rfl (avs := [iv (sc xs i 1)]) (rest := []) rfl rfl (nle rfl) ⟨nle rfl, nle rfl⟩ (by omega) (by omega) dL_law_828 (fun z2 u2 hq2 => ?_)
  obtain ⟨v9, g9, R9, ds9, ys9, w9, h9, rfl, rfl, hI9⟩ := pr_week hI hq hq2
  refine S_pop X dL_law_831 ?_
  refine S_goto (tgt := 1345) X dL_law_832 (by decide) ?_
  exact law_next X hH hI9 h0 h1 h2 h3 h4 (by omega) (by omega)
set_option maxRecDepth 100000 in
set_option maxHeartbeats 2000000 in
theorem law_k20 (X : Cx p s m #[Value.ref bs] meth c D G A code 7 ret RL) (hU : XU A s s.heap) (hlf : l.stackTraces = false) (hX : va_X bs N xs s s.heap) (hbl : bs < s.heap.size) (hA : ¬ A bs) (hN : N ≤ 3072) (hi : 6 * i + 6 ≤ N) (hH : Hd p l e s m bs below meth c D G A a b o (i + 1)) (hI : Inv v g ds ys w h) (h0 : L 0 = some (rv bs)) (h1 : L 1 = some (rv (a 19))) (h2 : L 2 = some (rv (b 0))) (h3 : L 3 = some (rv o)) (h4 : L 4 = some (iv (6 * (i : Int)))) (hc : cells ≤ 1000 + 20 * i) (hs : slots ≤ 20000 + 1500 * i) : LJ p l e s m bs below meth c D G A cells slots 835 L [] (CW a v g R ds ys ++ ((o, al 1 q) :: RW b w h)) := by
  refine S_aload_n X dL_law_835 rfl h1 ?_
  refine S_arg X hX hbl hA hN hi h0 h4 1 (by decide) dL_law_836 dL_law_837 dL_law_839 dL_law_840 dL_law_841 ?_
  refine S_arg X hX hbl hA hN hi h0 h4 2 (by decide) dL_law_842 dL_law_843 dL_law_845 dL_law_846 dL_law_847 ?_
  refine law_C X (qX11_leader l a v g R ds ys (sc xs i 1) (sc xs i 2) hI.2.2.1.1 (toInt_inR _) (toInt_inR _)) lkL_109 rfl (avs := [iv (sc xs i 1), iv (sc xs i 2)]) (rest := []) rfl rfl (nle rfl) ⟨nle rfl, nle rfl⟩ (by omega) (by omega) dL_law_848 (fun z u hq => ?_)
  refine S_pop X dL_law_851 ?_
  refine S_aload_n X dL_law_852 rfl h2 ?_
  refine S_arg X hX hbl hA hN hi h0 h4 1 (by decide) dL_law_853 dL_law_854 dL_law_856 dL_law_857 dL_law_858 ?_
  refine S_arg X hX hbl hA hN hi h0 h4 2 (by decide) dL_law_859 dL_law_860 dL_law_862 dL_law_863 dL_law_864 ?_
  refine law_R X (qX12_leader l b w h (sc xs i 1) (sc xs i 2) hI.rz (toInt_inR _) (toInt_inR _)) lkL_112 rfl (avs := [iv (sc xs i 1), iv (sc xs i 2)]) (rest := []) rfl rfl (nle rfl) ⟨nle rfl, nle rfl⟩ (by omega) (by omega) dL_law_865 (fun z2 u2 hq2 => ?_)
  obtain ⟨v9, g9, R9, ds9, ys9, w9, h9, rfl, rfl, hI9⟩ := pr_leader hI hq hq2
  refine S_pop X dL_law_868 ?_
  refine S_goto (tgt := 1345) X dL_law_869 (by decide) ?_
  exact law_next X hH hI9 h0 h1 h2 h3 h4 (by omega) (by omega)
set_option maxRecDepth 100000 in
set_option maxHeartbeats 2000000 in
theorem law_k21 (X : Cx p s m #[Value.ref bs] meth c D G A code 7 ret RL) (hU : XU A s s.heap) (hlf : l.stackTraces = false) (hX : va_X bs N xs s s.heap) (hbl : bs < s.heap.size) (hA : ¬ A bs) (hN : N ≤ 3072) (hi : 6 * i + 6 ≤ N) (hH : Hd p l e s m bs below meth c D G A a b o (i + 1)) (hI : Inv v g ds ys w h) (h0 : L 0 = some (rv bs)) (h1 : L 1 = some (rv (a 19))) (h2 : L 2 = some (rv (b 0))) (h3 : L 3 = some (rv o)) (h4 : L 4 = some (iv (6 * (i : Int)))) (hc : cells ≤ 1000 + 20 * i) (hs : slots ≤ 20000 + 1500 * i) : LJ p l e s m bs below meth c D G A cells slots 872 L [] (CW a v g R ds ys ++ ((o, al 1 q) :: RW b w h)) := by
  refine S_aload_n X dL_law_872 rfl h1 ?_
  refine S_arg X hX hbl hA hN hi h0 h4 1 (by decide) dL_law_873 dL_law_874 dL_law_876 dL_law_877 dL_law_878 ?_
  refine law_C X (qX11_marks l a v g R ds ys (sc xs i 1) hI.2.2.1.1 (toInt_inR _) hI.2.2.1.2.1 hI.2.2.2.2.2.2.1.1 hI.2.2.2.2.2.2.1.2.1 hI.2.2.2.2.2.2.1.2.2.1 hI.2.2.2.2.2.2.1.2.2.2) lkL_113 rfl (avs := [iv (sc xs i 1)]) (rest := []) rfl rfl (nle rfl) ⟨nle rfl, nle rfl⟩ (by omega) (by omega) dL_law_879 (fun z u hq => ?_)
  refine S_pop X dL_law_882 ?_
  refine S_aload_n X dL_law_883 rfl h2 ?_
  refine S_arg X hX hbl hA hN hi h0 h4 1 (by decide) dL_law_884 dL_law_885 dL_law_887 dL_law_888 dL_law_889 ?_
  refine law_R X (qX12_marks l b w h (sc xs i 1) hI.rz hI.rlim (toInt_inR _)) lkL_116 rfl (avs := [iv (sc xs i 1)]) (rest := []) rfl rfl (nle rfl) ⟨nle rfl, nle rfl⟩ (by omega) (by omega) dL_law_890 (fun z2 u2 hq2 => ?_)
  obtain ⟨v9, g9, R9, ds9, ys9, w9, h9, rfl, rfl, hI9⟩ := pr_marks hI hq hq2
  refine S_pop X dL_law_893 ?_
  refine S_goto (tgt := 1345) X dL_law_894 (by decide) ?_
  exact law_next X hH hI9 h0 h1 h2 h3 h4 (by omega) (by omega)
set_option maxRecDepth 100000 in
set_option maxHeartbeats 2000000 in
theorem law_k22 (X : Cx p s m #[Value.ref bs] meth c D G A code 7 ret RL) (hU : XU A s s.heap) (hlf : l.stackTraces = false) (hX : va_X bs N xs s s.heap) (hbl : bs < s.heap.size) (hA : ¬ A bs) (hN : N ≤ 3072) (hi : 6 * i + 6 ≤ N) (hH : Hd p l e s m bs below meth c D G A a b o (i + 1)) (hI : Inv v g ds ys w h) (h0 : L 0 = some (rv bs)) (h1 : L 1 = some (rv (a 19))) (h2 : L 2 = some (rv (b 0))) (h3 : L 3 = some (rv o)) (h4 : L 4 = some (iv (6 * (i : Int)))) (hc : cells ≤ 1000 + 20 * i) (hs : slots ≤ 20000 + 1500 * i) : LJ p l e s m bs below meth c D G A cells slots 897 L [] (CW a v g R ds ys ++ ((o, al 1 q) :: RW b w h)) := by
  refine S_aload_n X dL_law_897 rfl h1 ?_
  refine S_arg X hX hbl hA hN hi h0 h4 1 (by decide) dL_law_898 dL_law_899 dL_law_901 dL_law_902 dL_law_903 ?_
  refine S_arg X hX hbl hA hN hi h0 h4 2 (by decide) dL_law_904 dL_law_905 dL_law_907 dL_law_908 dL_law_909 ?_
  refine law_C X (qX11_odds l a v g R ds ys (sc xs i 1) (sc xs i 2) hI.2.2.1.1 (toInt_inR _) (toInt_inR _) hI.cdy) lkL_117 rfl (avs := [iv (sc xs i 1), iv (sc xs i 2)]) (rest := []) rfl rfl (nle rfl) ⟨nle rfl, nle rfl⟩ (by omega) (by omega) dL_law_910 (fun z u hq => ?_)
  refine S_pop X dL_law_913 ?_
  refine S_aload_n X dL_law_914 rfl h2 ?_
  refine S_arg X hX hbl hA hN hi h0 h4 1 (by decide) dL_law_915 dL_law_916 dL_law_918 dL_law_919 dL_law_920 ?_
  refine S_arg X hX hbl hA hN hi h0 h4 2 (by decide) dL_law_921 dL_law_922 dL_law_924 dL_law_925 dL_law_926 ?_
  refine law_R X (qW12_odds l b (sc xs i 1) (sc xs i 2) (toInt_inR _) (toInt_inR _) hI) lkL_120 rfl (avs := [iv (sc xs i 1), iv (sc xs i 2)]) (rest := []) rfl rfl (nle rfl) ⟨nle rfl, nle rfl⟩ (by omega) (by omega) dL_law_927 (fun z2 u2 hq2 => ?_)
  obtain ⟨v9, g9, R9, ds9, ys9, w9, h9, rfl, rfl, hI9⟩ := pr_odds hI hq hq2
  refine S_pop X dL_law_930 ?_
  refine S_goto (tgt := 1345) X dL_law_931 (by decide) ?_
  exact law_next X hH hI9 h0 h1 h2 h3 h4 (by omega) (by omega)
set_option maxRecDepth 100000 in
set_option maxHeartbeats 2000000 in
theorem law_k23 (X : Cx p s m #[Value.ref bs] meth c D G A code 7 ret RL) (hU : XU A s s.heap) (hlf : l.stackTraces = false) (hX : va_X bs N xs s s.heap) (hbl : bs < s.heap.size) (hA : ¬ A bs) (hN : N ≤ 3072) (hi : 6 * i + 6 ≤ N) (hH : Hd p l e s m bs below meth c D G A a b o (i + 1)) (hI : Inv v g ds ys w h) (h0 : L 0 = some (rv bs)) (h1 : L 1 = some (rv (a 19))) (h2 : L 2 = some (rv (b 0))) (h3 : L 3 = some (rv o)) (h4 : L 4 = some (iv (6 * (i : Int)))) (hc : cells ≤ 1000 + 20 * i) (hs : slots ≤ 20000 + 1500 * i) : LJ p l e s m bs below meth c D G A cells slots 934 L [] (CW a v g R ds ys ++ ((o, al 1 q) :: RW b w h)) := by
  refine S_aload_n X dL_law_934 rfl h1 ?_
  refine S_arg X hX hbl hA hN hi h0 h4 1 (by decide) dL_law_935 dL_law_936 dL_law_938 dL_law_939 dL_law_940 ?_
  refine law_C X (qX11_paid l a v g R ds ys (sc xs i 1) hI.2.2.1.1 (toInt_inR _)) lkL_121 rfl (avs := [iv (sc xs i 1)]) (rest := []) rfl rfl (nle rfl) ⟨nle rfl, nle rfl⟩ (by omega) (by omega) dL_law_941 (fun z u hq => ?_)
  refine S_pop X dL_law_944 ?_
  refine S_aload_n X dL_law_945 rfl h2 ?_
  refine S_arg X hX hbl hA hN hi h0 h4 1 (by decide) dL_law_946 dL_law_947 dL_law_949 dL_law_950 dL_law_951 ?_
  refine law_R X (qX12_paid l b w h (sc xs i 1) hI.rz (toInt_inR _)) lkL_124 rfl (avs := [iv (sc xs i 1)]) (rest := []) rfl rfl (nle rfl) ⟨nle rfl, nle rfl⟩ (by omega) (by omega) dL_law_952 (fun z2 u2 hq2 => ?_)
  obtain ⟨v9, g9, R9, ds9, ys9, w9, h9, rfl, rfl, hI9⟩ := pr_paid hI hq hq2
  refine S_pop X dL_law_955 ?_
  refine S_goto (tgt := 1345) X dL_law_956 (by decide) ?_
  exact law_next X hH hI9 h0 h1 h2 h3 h4 (by omega) (by omega)
set_option maxRecDepth 100000 in
set_option maxHeartbeats 2000000 in
theorem law_k24 (X : Cx p s m #[Value.ref bs] meth c D G A code 7 ret RL) (hU : XU A s s.heap) (hlf : l.stackTraces = false) (hX : va_X bs N xs s s.heap) (hbl : bs < s.heap.size) (hA : ¬ A bs) (hN : N ≤ 3072) (hi : 6 * i + 6 ≤ N) (hH : Hd p l e s m bs below meth c D G A a b o (i + 1)) (hI : Inv v g ds ys w h) (h0 : L 0 = some (rv bs)) (h1 : L 1 = some (rv (a 19))) (h2 : L 2 = some (rv (b 0))) (h3 : L 3 = some (rv o)) (h4 : L 4 = some (iv (6 * (i : Int)))) (hc : cells ≤ 1000 + 20 * i) (hs : slots ≤ 20000 + 1500 * i) : LJ p l e s m bs below meth c D G A cells slots 959 L [] (CW a v g R ds ys ++ ((o, al 1 q) :: RW b w h)) := by
  refine S_aload_n X dL_law_959 rfl h1 ?_
  refine S_arg X hX hbl hA hN hi h0 h4 1 (by decide) dL_law_960 dL_law_961 dL_law_963 dL_law_964 dL_law_965 ?_
  refine S_arg X hX hbl hA hN hi h0 h4 2 (by decide) dL_law_966 dL_law_967 dL_law_969 dL_law_970 dL_law_971 ?_
  refine S_arg X hX hbl hA hN hi h0 h4 3 (by decide) dL_law_972 dL_law_973 dL_law_975 dL_law_976 dL_law_977 ?_
  refine law_C X (qX11_roll l a v g R ds ys (sc xs i 1) (sc xs i 2) (sc xs i 3) hI.pl6 ⟨hI.cro.1, hI.cro.2.1⟩ (toInt_inR _) (toInt_inR _) (toInt_inR _)) lkL_125 rfl (avs := [iv (sc xs i 1), iv (sc xs i 2), iv (sc xs i 3)]) (rest := []) rfl rfl (nle rfl) ⟨nle rfl, nle rfl⟩ (by omega) (by omega) dL_law_978 (fun z u hq => ?_)
  refine S_pop X dL_law_981 ?_
  refine S_aload_n X dL_law_982 rfl h2 ?_
  refine S_arg X hX hbl hA hN hi h0 h4 1 (by decide) dL_law_983 dL_law_984 dL_law_986 dL_law_987 dL_law_988 ?_
  refine S_arg X hX hbl hA hN hi h0 h4 2 (by decide) dL_law_989 dL_law_990 dL_law_992 dL_law_993 dL_law_994 ?_
  refine S_arg X hX hbl hA hN hi h0 h4 3 (by decide) dL_law_995 dL_law_996 dL_law_998 dL_law_999 dL_law_1000 ?_
  refine law_R X (qX12_roll l b w h (sc xs i 1) (sc xs i 2) (sc xs i 3) hI.rpl hI.rrl (toInt_inR _) (toInt_inR _) (toInt_inR _)) lkL_128 rfl (avs := [iv (sc xs i 1), iv (sc xs i 2), iv (sc xs i 3)]) (rest := []) rfl rfl (nle rfl) ⟨nle rfl, nle rfl⟩ (by omega) (by omega) dL_law_1001 (fun z2 u2 hq2 => ?_)
  obtain ⟨hz, v9, g9, R9, ds9, ys9, w9, h9, rfl, rfl, hI9⟩ := pr_roll hI hq hq2
  refine S_pop X dL_law_1004 ?_
  refine S_goto (tgt := 1345) X dL_law_1005 (by decide) ?_
  exact law_next X hH hI9 h0 h1 h2 h3 h4 (by omega) (by omega)
set_option maxRecDepth 100000 in
set_option maxHeartbeats 2000000 in
theorem law_k25 (X : Cx p s m #[Value.ref bs] meth c D G A code 7 ret RL) (hU : XU A s s.heap) (hlf : l.stackTraces = false) (hX : va_X bs N xs s s.heap) (hbl : bs < s.heap.size) (hA : ¬ A bs) (hN : N ≤ 3072) (hi : 6 * i + 6 ≤ N) (hH : Hd p l e s m bs below meth c D G A a b o (i + 1)) (hI : Inv v g ds ys w h) (h0 : L 0 = some (rv bs)) (h1 : L 1 = some (rv (a 19))) (h2 : L 2 = some (rv (b 0))) (h3 : L 3 = some (rv o)) (h4 : L 4 = some (iv (6 * (i : Int)))) (hc : cells ≤ 1000 + 20 * i) (hs : slots ≤ 20000 + 1500 * i) : LJ p l e s m bs below meth c D G A cells slots 1008 L [] (CW a v g R ds ys ++ ((o, al 1 q) :: RW b w h)) := by
  refine S_aload_n X dL_law_1008 rfl h1 ?_
  refine S_arg X hX hbl hA hN hi h0 h4 1 (by decide) dL_law_1009 dL_law_1010 dL_law_1012 dL_law_1013 dL_law_1014 ?_
  refine law_C X (qX11_fits l a v g R ds ys (sc xs i 1) hI.2.2.1.1 (toInt_inR _) hI.cro) lkL_129 rfl (avs := [iv (sc xs i 1)]) (rest := []) rfl rfl (nle rfl) ⟨nle rfl, nle rfl⟩ (by omega) (by omega) dL_law_1015 (fun z u hq => ?_)
  refine S_pop X dL_law_1018 ?_
  refine S_aload_n X dL_law_1019 rfl h2 ?_
  refine S_arg X hX hbl hA hN hi h0 h4 1 (by decide) dL_law_1020 dL_law_1021 dL_law_1023 dL_law_1024 dL_law_1025 ?_
  refine law_R X (qX12_fits l b w h (sc xs i 1) hI.rz (toInt_inR _) hI.rro) lkL_132 rfl (avs := [iv (sc xs i 1)]) (rest := []) rfl rfl (nle rfl) ⟨nle rfl, nle rfl⟩ (by omega) (by omega) dL_law_1026 (fun z2 u2 hq2 => ?_)
  obtain ⟨v9, g9, R9, ds9, ys9, w9, h9, rfl, rfl, hI9⟩ := pr_fits hI hq hq2
  refine S_pop X dL_law_1029 ?_
  refine S_goto (tgt := 1345) X dL_law_1030 (by decide) ?_
  exact law_next X hH hI9 h0 h1 h2 h3 h4 (by omega) (by omega)
set_option maxRecDepth 100000 in
set_option maxHeartbeats 2000000 in
theorem law_k26 (X : Cx p s m #[Value.ref bs] meth c D G A code 7 ret RL) (hU : XU A s s.heap) (hlf : l.stackTraces = false) (hX : va_X bs N xs s s.heap) (hbl : bs < s.heap.size) (hA : ¬ A bs) (hN : N ≤ 3072) (hi : 6 * i + 6 ≤ N) (hH : Hd p l e s m bs below meth c D G A a b o (i + 1)) (hI : Inv v g ds ys w h) (h0 : L 0 = some (rv bs)) (h1 : L 1 = some (rv (a 19))) (h2 : L 2 = some (rv (b 0))) (h3 : L 3 = some (rv o)) (h4 : L 4 = some (iv (6 * (i : Int)))) (hc : cells ≤ 1000 + 20 * i) (hs : slots ≤ 20000 + 1500 * i) : LJ p l e s m bs below meth c D G A cells slots 1033 L [] (CW a v g R ds ys ++ ((o, al 1 q) :: RW b w h)) := by
  refine S_aload_n X dL_law_1033 rfl h1 ?_
  refine S_arg X hX hbl hA hN hi h0 h4 1 (by decide) dL_law_1034 dL_law_1035 dL_law_1037 dL_law_1038 dL_law_1039 ?_
  refine law_C X (qX11_deaf l a v g R ds ys (sc xs i 1) hI.2.2.1.1 (toInt_inR _)) lkL_133 rfl (avs := [iv (sc xs i 1)]) (rest := []) rfl rfl (nle rfl) ⟨nle rfl, nle rfl⟩ (by omega) (by omega) dL_law_1040 (fun z u hq => ?_)
  refine S_pop X dL_law_1043 ?_
  refine S_aload_n X dL_law_1044 rfl h2 ?_
  refine S_arg X hX hbl hA hN hi h0 h4 1 (by decide) dL_law_1045 dL_law_1046 dL_law_1048 dL_law_1049 dL_law_1050 ?_
  refine law_R X (qX12_deaf l b w h (sc xs i 1) hI.rz (toInt_inR _)) lkL_136 rfl (avs := [iv (sc xs i 1)]) (rest := []) rfl rfl (nle rfl) ⟨nle rfl, nle rfl⟩ (by omega) (by omega) dL_law_1051 (fun z2 u2 hq2 => ?_)
  obtain ⟨v9, g9, R9, ds9, ys9, w9, h9, rfl, rfl, hI9⟩ := pr_deaf hI hq hq2
  refine S_pop X dL_law_1054 ?_
  refine S_goto (tgt := 1345) X dL_law_1055 (by decide) ?_
  exact law_next X hH hI9 h0 h1 h2 h3 h4 (by omega) (by omega)
set_option maxRecDepth 100000 in
set_option maxHeartbeats 2000000 in
theorem law_k27 (X : Cx p s m #[Value.ref bs] meth c D G A code 7 ret RL) (hU : XU A s s.heap) (hlf : l.stackTraces = false) (hX : va_X bs N xs s s.heap) (hbl : bs < s.heap.size) (hA : ¬ A bs) (hN : N ≤ 3072) (hi : 6 * i + 6 ≤ N) (hH : Hd p l e s m bs below meth c D G A a b o (i + 1)) (hI : Inv v g ds ys w h) (h0 : L 0 = some (rv bs)) (h1 : L 1 = some (rv (a 19))) (h2 : L 2 = some (rv (b 0))) (h3 : L 3 = some (rv o)) (h4 : L 4 = some (iv (6 * (i : Int)))) (hc : cells ≤ 1000 + 20 * i) (hs : slots ≤ 20000 + 1500 * i) : LJ p l e s m bs below meth c D G A cells slots 1058 L [] (CW a v g R ds ys ++ ((o, al 1 q) :: RW b w h)) := by
  refine S_aload_n X dL_law_1058 rfl h1 ?_
  refine S_arg X hX hbl hA hN hi h0 h4 1 (by decide) dL_law_1059 dL_law_1060 dL_law_1062 dL_law_1063 dL_law_1064 ?_
  refine law_C X (qX11_echoes l a v g R ds ys (sc xs i 1) hI.2.2.1.1 (toInt_inR _)) lkL_137 rfl (avs := [iv (sc xs i 1)]) (rest := []) rfl rfl (nle rfl) ⟨nle rfl, nle rfl⟩ (by omega) (by omega) dL_law_1065 (fun z u hq => ?_)
  refine S_pop X dL_law_1068 ?_
  refine S_aload_n X dL_law_1069 rfl h2 ?_
  refine S_arg X hX hbl hA hN hi h0 h4 1 (by decide) dL_law_1070 dL_law_1071 dL_law_1073 dL_law_1074 dL_law_1075 ?_
  refine law_R X (qX12_echoes l b w h (sc xs i 1) hI.rz (toInt_inR _)) lkL_140 rfl (avs := [iv (sc xs i 1)]) (rest := []) rfl rfl (nle rfl) ⟨nle rfl, nle rfl⟩ (by omega) (by omega) dL_law_1076 (fun z2 u2 hq2 => ?_)
  obtain ⟨v9, g9, R9, ds9, ys9, w9, h9, rfl, rfl, hI9⟩ := pr_echoes hI hq hq2
  refine S_pop X dL_law_1079 ?_
  refine S_goto (tgt := 1345) X dL_law_1080 (by decide) ?_
  exact law_next X hH hI9 h0 h1 h2 h3 h4 (by omega) (by omega)
set_option maxRecDepth 100000 in
set_option maxHeartbeats 2000000 in
theorem law_k28 (X : Cx p s m #[Value.ref bs] meth c D G A code 7 ret RL) (hU : XU A s s.heap) (hlf : l.stackTraces = false) (hX : va_X bs N xs s s.heap) (hbl : bs < s.heap.size) (hA : ¬ A bs) (hN : N ≤ 3072) (hi : 6 * i + 6 ≤ N) (hH : Hd p l e s m bs below meth c D G A a b o (i + 1)) (hI : Inv v g ds ys w h) (h0 : L 0 = some (rv bs)) (h1 : L 1 = some (rv (a 19))) (h2 : L 2 = some (rv (b 0))) (h3 : L 3 = some (rv o)) (h4 : L 4 = some (iv (6 * (i : Int)))) (hc : cells ≤ 1000 + 20 * i) (hs : slots ≤ 20000 + 1500 * i) : LJ p l e s m bs below meth c D G A cells slots 1083 L [] (CW a v g R ds ys ++ ((o, al 1 q) :: RW b w h)) := by
  refine S_aload_n X dL_law_1083 rfl h1 ?_
  refine S_arg X hX hbl hA hN hi h0 h4 1 (by decide) dL_law_1084 dL_law_1085 dL_law_1087 dL_law_1088 dL_law_1089 ?_
  refine law_C X (qX11_gift l a v g R ds ys (sc xs i 1) hI.2.2.1.1 (toInt_inR _) hI.cdy hI.2.1.1 hI.2.1.2.1 hI.2.1.2.2.1 hI.ctd) lkL_141 rfl (avs := [iv (sc xs i 1)]) (rest := []) rfl rfl (nle rfl) ⟨nle rfl, nle rfl⟩ (by omega) (by omega) dL_law_1090 (fun z u hq => ?_)
  refine S_pop X dL_law_1093 ?_
  refine S_aload_n X dL_law_1094 rfl h2 ?_
  refine S_arg X hX hbl hA hN hi h0 h4 1 (by decide) dL_law_1095 dL_law_1096 dL_law_1098 dL_law_1099 dL_law_1100 ?_
  refine law_R X (qW12_gift l b (sc xs i 1) (toInt_inR _) hI) lkL_144 rfl (avs := [iv (sc xs i 1)]) (rest := []) rfl rfl (nle rfl) ⟨nle rfl, nle rfl⟩ (by omega) (by omega) dL_law_1101 (fun z2 u2 hq2 => ?_)
  obtain ⟨v9, g9, R9, ds9, ys9, w9, h9, rfl, rfl, hI9⟩ := pr_gift hI hq hq2
  refine S_pop X dL_law_1104 ?_
  refine S_goto (tgt := 1345) X dL_law_1105 (by decide) ?_
  exact law_next X hH hI9 h0 h1 h2 h3 h4 (by omega) (by omega)
set_option maxRecDepth 100000 in
set_option maxHeartbeats 2000000 in
theorem law_k29 (X : Cx p s m #[Value.ref bs] meth c D G A code 7 ret RL) (hU : XU A s s.heap) (hlf : l.stackTraces = false) (hX : va_X bs N xs s s.heap) (hbl : bs < s.heap.size) (hA : ¬ A bs) (hN : N ≤ 3072) (hi : 6 * i + 6 ≤ N) (hH : Hd p l e s m bs below meth c D G A a b o (i + 1)) (hI : Inv v g ds ys w h) (h0 : L 0 = some (rv bs)) (h1 : L 1 = some (rv (a 19))) (h2 : L 2 = some (rv (b 0))) (h3 : L 3 = some (rv o)) (h4 : L 4 = some (iv (6 * (i : Int)))) (hc : cells ≤ 1000 + 20 * i) (hs : slots ≤ 20000 + 1500 * i) : LJ p l e s m bs below meth c D G A cells slots 1108 L [] (CW a v g R ds ys ++ ((o, al 1 q) :: RW b w h)) := by
  refine S_aload_n X dL_law_1108 rfl h1 ?_
  refine S_arg X hX hbl hA hN hi h0 h4 1 (by decide) dL_law_1109 dL_law_1110 dL_law_1112 dL_law_1113 dL_law_1114 ?_
  refine S_arg X hX hbl hA hN hi h0 h4 2 (by decide) dL_law_1115 dL_law_1116 dL_law_1118 dL_law_1119 dL_law_1120 ?_
  refine law_C X (qX11_tune l a v g R ds ys (sc xs i 1) (sc xs i 2) hI.2.2.1.1 (toInt_inR _) (toInt_inR _) hI.2.2.1.2.1) lkL_145 rfl (avs := [iv (sc xs i 1), iv (sc xs i 2)]) (rest := []) rfl rfl (nle rfl) ⟨nle rfl, nle rfl⟩ (by omega) (by omega) dL_law_1121 (fun z u hq => ?_)
  refine S_pop X dL_law_1124 ?_
  refine S_aload_n X dL_law_1125 rfl h2 ?_
  refine S_arg X hX hbl hA hN hi h0 h4 1 (by decide) dL_law_1126 dL_law_1127 dL_law_1129 dL_law_1130 dL_law_1131 ?_
  refine S_arg X hX hbl hA hN hi h0 h4 2 (by decide) dL_law_1132 dL_law_1133 dL_law_1135 dL_law_1136 dL_law_1137 ?_
  refine law_R X (qX12_tune l b w h (sc xs i 1) (sc xs i 2) hI.rz (toInt_inR _) (toInt_inR _) hI.rlim) lkL_148 rfl (avs := [iv (sc xs i 1), iv (sc xs i 2)]) (rest := []) rfl rfl (nle rfl) ⟨nle rfl, nle rfl⟩ (by omega) (by omega) dL_law_1138 (fun z2 u2 hq2 => ?_)
  obtain ⟨v9, g9, R9, ds9, ys9, w9, h9, rfl, rfl, hI9⟩ := pr_tune hI hq hq2
  refine S_pop X dL_law_1141 ?_
  refine S_goto (tgt := 1345) X dL_law_1142 (by decide) ?_
  exact law_next X hH hI9 h0 h1 h2 h3 h4 (by omega) (by omega)
set_option maxRecDepth 100000 in
set_option maxHeartbeats 2000000 in
theorem law_k30 (X : Cx p s m #[Value.ref bs] meth c D G A code 7 ret RL) (hU : XU A s s.heap) (hlf : l.stackTraces = false) (hX : va_X bs N xs s s.heap) (hbl : bs < s.heap.size) (hA : ¬ A bs) (hN : N ≤ 3072) (hi : 6 * i + 6 ≤ N) (hH : Hd p l e s m bs below meth c D G A a b o (i + 1)) (hI : Inv v g ds ys w h) (h0 : L 0 = some (rv bs)) (h1 : L 1 = some (rv (a 19))) (h2 : L 2 = some (rv (b 0))) (h3 : L 3 = some (rv o)) (h4 : L 4 = some (iv (6 * (i : Int)))) (hc : cells ≤ 1000 + 20 * i) (hs : slots ≤ 20000 + 1500 * i) : LJ p l e s m bs below meth c D G A cells slots 1145 L [] (CW a v g R ds ys ++ ((o, al 1 q) :: RW b w h)) := by
  refine S_aload_n X dL_law_1145 rfl h1 ?_
  refine S_arg X hX hbl hA hN hi h0 h4 1 (by decide) dL_law_1146 dL_law_1147 dL_law_1149 dL_law_1150 dL_law_1151 ?_
  refine S_arg X hX hbl hA hN hi h0 h4 2 (by decide) dL_law_1152 dL_law_1153 dL_law_1155 dL_law_1156 dL_law_1157 ?_
  refine law_C X (qX11_place l a v g R ds ys (sc xs i 1) (sc xs i 2) hI.2.2.1.1 (toInt_inR _) (toInt_inR _)) lkL_149 rfl (avs := [iv (sc xs i 1), iv (sc xs i 2)]) (rest := []) rfl rfl (nle rfl) ⟨nle rfl, nle rfl⟩ (by omega) (by omega) dL_law_1158 (fun z u hq => ?_)
  refine S_pop X dL_law_1161 ?_
  refine S_aload_n X dL_law_1162 rfl h2 ?_
  refine S_arg X hX hbl hA hN hi h0 h4 1 (by decide) dL_law_1163 dL_law_1164 dL_law_1166 dL_law_1167 dL_law_1168 ?_
  refine S_arg X hX hbl hA hN hi h0 h4 2 (by decide) dL_law_1169 dL_law_1170 dL_law_1172 dL_law_1173 dL_law_1174 ?_
  refine law_R X (qX12_place l b w h (sc xs i 1) (sc xs i 2) hI.rz (toInt_inR _) (toInt_inR _)) lkL_152 rfl (avs := [iv (sc xs i 1), iv (sc xs i 2)]) (rest := []) rfl rfl (nle rfl) ⟨nle rfl, nle rfl⟩ (by omega) (by omega) dL_law_1175 (fun z2 u2 hq2 => ?_)
  obtain ⟨v9, g9, R9, ds9, ys9, w9, h9, rfl, rfl, hI9⟩ := pr_place hI hq hq2
  refine S_pop X dL_law_1178 ?_
  refine S_goto (tgt := 1345) X dL_law_1179 (by decide) ?_
  exact law_next X hH hI9 h0 h1 h2 h3 h4 (by omega) (by omega)
set_option maxRecDepth 100000 in
set_option maxHeartbeats 2000000 in
theorem law_k31 (X : Cx p s m #[Value.ref bs] meth c D G A code 7 ret RL) (hU : XU A s s.heap) (hlf : l.stackTraces = false) (hX : va_X bs N xs s s.heap) (hbl : bs < s.heap.size) (hA : ¬ A bs) (hN : N ≤ 3072) (hi : 6 * i + 6 ≤ N) (hH : Hd p l e s m bs below meth c D G A a b o (i + 1)) (hI : Inv v g ds ys w h) (h0 : L 0 = some (rv bs)) (h1 : L 1 = some (rv (a 19))) (h2 : L 2 = some (rv (b 0))) (h3 : L 3 = some (rv o)) (h4 : L 4 = some (iv (6 * (i : Int)))) (hc : cells ≤ 1000 + 20 * i) (hs : slots ≤ 20000 + 1500 * i) : LJ p l e s m bs below meth c D G A cells slots 1182 L [] (CW a v g R ds ys ++ ((o, al 1 q) :: RW b w h)) := by
  refine S_aload_n X dL_law_1182 rfl h1 ?_
  refine S_arg X hX hbl hA hN hi h0 h4 1 (by decide) dL_law_1183 dL_law_1184 dL_law_1186 dL_law_1187 dL_law_1188 ?_
  refine S_arg X hX hbl hA hN hi h0 h4 2 (by decide) dL_law_1189 dL_law_1190 dL_law_1192 dL_law_1193 dL_law_1194 ?_
  refine law_C X (qX11_overtakes l a v g R ds ys (sc xs i 1) (sc xs i 2) hI.2.2.1.1 (toInt_inR _) (toInt_inR _)) lkL_153 rfl (avs := [iv (sc xs i 1), iv (sc xs i 2)]) (rest := []) rfl rfl (nle rfl) ⟨nle rfl, nle rfl⟩ (by omega) (by omega) dL_law_1195 (fun z u hq => ?_)
  refine S_pop X dL_law_1198 ?_
  refine S_aload_n X dL_law_1199 rfl h2 ?_
  refine S_arg X hX hbl hA hN hi h0 h4 1 (by decide) dL_law_1200 dL_law_1201 dL_law_1203 dL_law_1204 dL_law_1205 ?_
  refine S_arg X hX hbl hA hN hi h0 h4 2 (by decide) dL_law_1206 dL_law_1207 dL_law_1209 dL_law_1210 dL_law_1211 ?_
  refine law_R X (qX12_overtakes l b w h (sc xs i 1) (sc xs i 2) hI.rz (toInt_inR _) (toInt_inR _)) lkL_156 rfl (avs := [iv (sc xs i 1), iv (sc xs i 2)]) (rest := []) rfl rfl (nle rfl) ⟨nle rfl, nle rfl⟩ (by omega) (by omega) dL_law_1212 (fun z2 u2 hq2 => ?_)
  obtain ⟨v9, g9, R9, ds9, ys9, w9, h9, rfl, rfl, hI9⟩ := pr_overtakes hI hq hq2
  refine S_pop X dL_law_1215 ?_
  refine S_goto (tgt := 1345) X dL_law_1216 (by decide) ?_
  exact law_next X hH hI9 h0 h1 h2 h3 h4 (by omega) (by omega)
set_option maxRecDepth 100000 in
set_option maxHeartbeats 2000000 in
theorem law_k32 (X : Cx p s m #[Value.ref bs] meth c D G A code 7 ret RL) (hU : XU A s s.heap) (hlf : l.stackTraces = false) (hX : va_X bs N xs s s.heap) (hbl : bs < s.heap.size) (hA : ¬ A bs) (hN : N ≤ 3072) (hi : 6 * i + 6 ≤ N) (hH : Hd p l e s m bs below meth c D G A a b o (i + 1)) (hI : Inv v g ds ys w h) (h0 : L 0 = some (rv bs)) (h1 : L 1 = some (rv (a 19))) (h2 : L 2 = some (rv (b 0))) (h3 : L 3 = some (rv o)) (h4 : L 4 = some (iv (6 * (i : Int)))) (hc : cells ≤ 1000 + 20 * i) (hs : slots ≤ 20000 + 1500 * i) : LJ p l e s m bs below meth c D G A cells slots 1219 L [] (CW a v g R ds ys ++ ((o, al 1 q) :: RW b w h)) := by
  refine S_aload_n X dL_law_1219 rfl h1 ?_
  refine law_C X (qX11_middle l a v g R ds ys hI.2.2.1.1) lkL_157 rfl (avs := []) (rest := []) rfl rfl (nle rfl) ⟨nle rfl, nle rfl⟩ (by omega) (by omega) dL_law_1220 (fun z u hq => ?_)
  refine S_pop X dL_law_1223 ?_
  refine S_aload_n X dL_law_1224 rfl h2 ?_
  refine law_R X (qX12_middle l b w h hI.rz) lkL_160 rfl (avs := []) (rest := []) rfl rfl (nle rfl) ⟨nle rfl, nle rfl⟩ (by omega) (by omega) dL_law_1225 (fun z2 u2 hq2 => ?_)
  obtain ⟨v9, g9, R9, ds9, ys9, w9, h9, rfl, rfl, hI9⟩ := pr_middle hI hq hq2
  refine S_pop X dL_law_1228 ?_
  refine S_goto (tgt := 1345) X dL_law_1229 (by decide) ?_
  exact law_next X hH hI9 h0 h1 h2 h3 h4 (by omega) (by omega)
set_option maxRecDepth 100000 in
set_option maxHeartbeats 2000000 in
theorem law_k33 (X : Cx p s m #[Value.ref bs] meth c D G A code 7 ret RL) (hU : XU A s s.heap) (hlf : l.stackTraces = false) (hX : va_X bs N xs s s.heap) (hbl : bs < s.heap.size) (hA : ¬ A bs) (hN : N ≤ 3072) (hi : 6 * i + 6 ≤ N) (hH : Hd p l e s m bs below meth c D G A a b o (i + 1)) (hI : Inv v g ds ys w h) (h0 : L 0 = some (rv bs)) (h1 : L 1 = some (rv (a 19))) (h2 : L 2 = some (rv (b 0))) (h3 : L 3 = some (rv o)) (h4 : L 4 = some (iv (6 * (i : Int)))) (hc : cells ≤ 1000 + 20 * i) (hs : slots ≤ 20000 + 1500 * i) : LJ p l e s m bs below meth c D G A cells slots 1232 L [] (CW a v g R ds ys ++ ((o, al 1 q) :: RW b w h)) := by
  refine S_aload_n X dL_law_1232 rfl h1 ?_
  refine S_arg X hX hbl hA hN hi h0 h4 1 (by decide) dL_law_1233 dL_law_1234 dL_law_1236 dL_law_1237 dL_law_1238 ?_
  refine law_C X (qX11_ends l a v g R ds ys (sc xs i 1) hI.2.2.1.1 (toInt_inR _)) lkL_161 rfl (avs := [iv (sc xs i 1)]) (rest := []) rfl rfl (nle rfl) ⟨nle rfl, nle rfl⟩ (by omega) (by omega) dL_law_1239 (fun z u hq => ?_)
  refine S_pop X dL_law_1242 ?_
  refine S_aload_n X dL_law_1243 rfl h2 ?_
  refine S_arg X hX hbl hA hN hi h0 h4 1 (by decide) dL_law_1244 dL_law_1245 dL_law_1247 dL_law_1248 dL_law_1249 ?_
  refine law_R X (qX12_ends l b w h (sc xs i 1) hI.rz (toInt_inR _)) lkL_164 rfl (avs := [iv (sc xs i 1)]) (rest := []) rfl rfl (nle rfl) ⟨nle rfl, nle rfl⟩ (by omega) (by omega) dL_law_1250 (fun z2 u2 hq2 => ?_)
  obtain ⟨v9, g9, R9, ds9, ys9, w9, h9, rfl, rfl, hI9⟩ := pr_ends hI hq hq2
  refine S_pop X dL_law_1253 ?_
  refine S_goto (tgt := 1345) X dL_law_1254 (by decide) ?_
  exact law_next X hH hI9 h0 h1 h2 h3 h4 (by omega) (by omega)
set_option maxRecDepth 100000 in
set_option maxHeartbeats 2000000 in
theorem law_k34 (X : Cx p s m #[Value.ref bs] meth c D G A code 7 ret RL) (hU : XU A s s.heap) (hlf : l.stackTraces = false) (hX : va_X bs N xs s s.heap) (hbl : bs < s.heap.size) (hA : ¬ A bs) (hN : N ≤ 3072) (hi : 6 * i + 6 ≤ N) (hH : Hd p l e s m bs below meth c D G A a b o (i + 1)) (hI : Inv v g ds ys w h) (h0 : L 0 = some (rv bs)) (h1 : L 1 = some (rv (a 19))) (h2 : L 2 = some (rv (b 0))) (h3 : L 3 = some (rv o)) (h4 : L 4 = some (iv (6 * (i : Int)))) (hc : cells ≤ 1000 + 20 * i) (hs : slots ≤ 20000 + 1500 * i) : LJ p l e s m bs below meth c D G A cells slots 1257 L [] (CW a v g R ds ys ++ ((o, al 1 q) :: RW b w h)) := by
  refine S_aload_n X dL_law_1257 rfl h1 ?_
  refine S_arg X hX hbl hA hN hi h0 h4 1 (by decide) dL_law_1258 dL_law_1259 dL_law_1261 dL_law_1262 dL_law_1263 ?_
  refine S_arg X hX hbl hA hN hi h0 h4 2 (by decide) dL_law_1264 dL_law_1265 dL_law_1267 dL_law_1268 dL_law_1269 ?_
  refine law_C X (qX11_stray l a v g R ds ys (sc xs i 1) (sc xs i 2) hI.2.2.1.1 (toInt_inR _) (toInt_inR _)) lkL_165 rfl (avs := [iv (sc xs i 1), iv (sc xs i 2)]) (rest := []) rfl rfl (nle rfl) ⟨nle rfl, nle rfl⟩ (by omega) (by omega) dL_law_1270 (fun z u hq => ?_)
  refine S_aload_n X dL_law_1273 rfl h2 ?_
  refine S_arg X hX hbl hA hN hi h0 h4 1 (by decide) dL_law_1274 dL_law_1275 dL_law_1277 dL_law_1278 dL_law_1279 ?_
  refine S_arg X hX hbl hA hN hi h0 h4 2 (by decide) dL_law_1280 dL_law_1281 dL_law_1283 dL_law_1284 dL_law_1285 ?_
  refine law_R X (qX12_stray l b w h (sc xs i 1) (sc xs i 2) hI.rz (toInt_inR _) (toInt_inR _)) lkL_168 rfl (avs := [iv (sc xs i 1), iv (sc xs i 2)]) (rest := [iv z]) rfl rfl (nle rfl) ⟨nle rfl, nle rfl⟩ (by omega) (by omega) dL_law_1286 (fun z2 u2 hq2 => ?_)
  obtain ⟨v9, g9, R9, ds9, ys9, w9, h9, rfl, rfl, hI9⟩ := pr_stray hI hq hq2
  refine S_iceqT (tgt := 1345) X dL_law_1289 (by decide) (ans_stray hI hq hq2) ?_
  exact law_next X hH hI9 h0 h1 h2 h3 h4 (by omega) (by omega)
set_option maxRecDepth 100000 in
set_option maxHeartbeats 2000000 in
theorem law_k35 (X : Cx p s m #[Value.ref bs] meth c D G A code 7 ret RL) (hU : XU A s s.heap) (hlf : l.stackTraces = false) (hX : va_X bs N xs s s.heap) (hbl : bs < s.heap.size) (hA : ¬ A bs) (hN : N ≤ 3072) (hi : 6 * i + 6 ≤ N) (hH : Hd p l e s m bs below meth c D G A a b o (i + 1)) (hI : Inv v g ds ys w h) (h0 : L 0 = some (rv bs)) (h1 : L 1 = some (rv (a 19))) (h2 : L 2 = some (rv (b 0))) (h3 : L 3 = some (rv o)) (h4 : L 4 = some (iv (6 * (i : Int)))) (hc : cells ≤ 1000 + 20 * i) (hs : slots ≤ 20000 + 1500 * i) : LJ p l e s m bs below meth c D G A cells slots 1294 L [] (CW a v g R ds ys ++ ((o, al 1 q) :: RW b w h)) := by
  refine S_aload_n X dL_law_1294 rfl h1 ?_
  refine law_C X (qX11_image l a v g R ds ys hI.pl6) lkL_169 rfl (avs := []) (rest := []) rfl rfl (nle rfl) ⟨nle rfl, nle rfl⟩ (by omega) (by omega) dL_law_1295 (fun z u hq => ?_)
  refine S_pop X dL_law_1298 ?_
  refine S_aload_n X dL_law_1299 rfl h2 ?_
  refine law_R X (qX12_image l b w h hI.rpl) lkL_172 rfl (avs := []) (rest := []) rfl rfl (nle rfl) ⟨nle rfl, nle rfl⟩ (by omega) (by omega) dL_law_1300 (fun z2 u2 hq2 => ?_)
  obtain ⟨hz, v9, g9, R9, ds9, ys9, w9, h9, rfl, rfl, hI9⟩ := pr_image hI hq hq2
  refine S_pop X dL_law_1303 ?_
  refine S_goto (tgt := 1345) X dL_law_1304 (by decide) ?_
  exact law_next X hH hI9 h0 h1 h2 h3 h4 (by omega) (by omega)
set_option maxRecDepth 100000 in
set_option maxHeartbeats 2000000 in
theorem law_k36 (X : Cx p s m #[Value.ref bs] meth c D G A code 7 ret RL) (hU : XU A s s.heap) (hlf : l.stackTraces = false) (hX : va_X bs N xs s s.heap) (hbl : bs < s.heap.size) (hA : ¬ A bs) (hN : N ≤ 3072) (hi : 6 * i + 6 ≤ N) (hH : Hd p l e s m bs below meth c D G A a b o (i + 1)) (hI : Inv v g ds ys w h) (h0 : L 0 = some (rv bs)) (h1 : L 1 = some (rv (a 19))) (h2 : L 2 = some (rv (b 0))) (h3 : L 3 = some (rv o)) (h4 : L 4 = some (iv (6 * (i : Int)))) (hc : cells ≤ 1000 + 20 * i) (hs : slots ≤ 20000 + 1500 * i) : LJ p l e s m bs below meth c D G A cells slots 1307 L [] (CW a v g R ds ys ++ ((o, al 1 q) :: RW b w h)) := by
  refine S_aload_n X dL_law_1307 rfl h1 ?_
  refine law_C X (qX11_back l a v g R ds ys hI.2.2.2.2.1.2.2.2.2.1) lkL_173 rfl (avs := []) (rest := []) rfl rfl (nle rfl) ⟨nle rfl, nle rfl⟩ (by omega) (by omega) dL_law_1308 (fun z u hq => ?_)
  refine S_pop X dL_law_1311 ?_
  refine S_aload_n X dL_law_1312 rfl h2 ?_
  refine law_R X (qX12_back l b w h hI.rhi) lkL_176 rfl (avs := []) (rest := []) rfl rfl (nle rfl) ⟨nle rfl, nle rfl⟩ (by omega) (by omega) dL_law_1313 (fun z2 u2 hq2 => ?_)
  obtain ⟨hz, v9, g9, R9, ds9, ys9, w9, h9, rfl, rfl, hI9⟩ := pr_back hI hq hq2
  refine S_pop X dL_law_1316 ?_
  refine S_goto (tgt := 1345) X dL_law_1317 (by decide) ?_
  exact law_next X hH hI9 h0 h1 h2 h3 h4 (by omega) (by omega)
set_option maxRecDepth 100000 in
set_option maxHeartbeats 2000000 in
theorem law_k37 (X : Cx p s m #[Value.ref bs] meth c D G A code 7 ret RL) (hU : XU A s s.heap) (hlf : l.stackTraces = false) (hX : va_X bs N xs s s.heap) (hbl : bs < s.heap.size) (hA : ¬ A bs) (hN : N ≤ 3072) (hi : 6 * i + 6 ≤ N) (hH : Hd p l e s m bs below meth c D G A a b o (i + 1)) (hI : Inv v g ds ys w h) (h0 : L 0 = some (rv bs)) (h1 : L 1 = some (rv (a 19))) (h2 : L 2 = some (rv (b 0))) (h3 : L 3 = some (rv o)) (h4 : L 4 = some (iv (6 * (i : Int)))) (hc : cells ≤ 1000 + 20 * i) (hs : slots ≤ 20000 + 1500 * i) : LJ p l e s m bs below meth c D G A cells slots 1320 L [] (CW a v g R ds ys ++ ((o, al 1 q) :: RW b w h)) := by
  refine S_aload_n X dL_law_1320 rfl h1 ?_
  refine S_arg X hX hbl hA hN hi h0 h4 1 (by decide) dL_law_1321 dL_law_1322 dL_law_1324 dL_law_1325 dL_law_1326 ?_
  refine law_C X (qX11_count l a v g R ds ys (sc xs i 1) (toInt_inR _)) lkL_177 rfl (avs := [iv (sc xs i 1)]) (rest := []) rfl rfl (nle rfl) ⟨nle rfl, nle rfl⟩ (by omega) (by omega) dL_law_1327 (fun z u hq => ?_)
  refine S_pop X dL_law_1330 ?_
  refine S_aload_n X dL_law_1331 rfl h2 ?_
  refine S_arg X hX hbl hA hN hi h0 h4 1 (by decide) dL_law_1332 dL_law_1333 dL_law_1335 dL_law_1336 dL_law_1337 ?_
  refine law_R X (qX12_count l b w h (sc xs i 1) (toInt_inR _)) lkL_180 rfl (avs := [iv (sc xs i 1)]) (rest := []) rfl rfl (nle rfl) ⟨nle rfl, nle rfl⟩ (by omega) (by omega) dL_law_1338 (fun z2 u2 hq2 => ?_)
  obtain ⟨v9, g9, R9, ds9, ys9, w9, h9, rfl, rfl, hI9⟩ := pr_count hI hq hq2
  refine S_pop X dL_law_1341 ?_
  refine S_goto (tgt := 1345) X dL_law_1342 (by decide) ?_
  exact law_next X hH hI9 h0 h1 h2 h3 h4 (by omega) (by omega)
set_option maxRecDepth 100000 in
set_option maxHeartbeats 4000000 in
theorem law_hd (X : Cx p s m #[Value.ref bs] meth c D G A code 7 ret RL) (hU : XU A s s.heap) (hlf : l.stackTraces = false) (hX : va_X bs N xs s s.heap) (hbl : bs < s.heap.size) (hA : ¬ A bs) (hAs : ∀ q, A q → s.heap.size ≤ q) (hN : N ≤ 3072) : ∀ (t i : Nat), i + t = 512 → Hd p l e s m bs below meth c D G A a b o i := by
  intro t
  induction t with
  | zero =>
    intro i ht v g R ds ys w h q L cells slots hI h0 h1 h2 h3 h4 hc hs
    refine S_iload X dL_law_23 h4 ?_
    refine S_aload_n X dL_law_25 rfl h0 ?_
    refine S_slen X hX hbl hA dL_law_26 ?_
    refine S_bipush X dL_law_27 (by decide) ?_
    refine S_isub X dL_law_29 ?_
    refine S_icmp_gt (tgt := 1351) X dL_law_30 (by decide) (by omega) (by omega) (fun _ => ?_) (fun h9 => absurd h9 (by omega))
    refine S_iconst X dL_law_1351 ?_
    exact S_end X hAs dL_law_1352 (by omega) (by omega)
  | succ t ih =>
    intro i ht v g R ds ys w h q L cells slots hI h0 h1 h2 h3 h4 hc hs
    have hH := ih (i + 1) (by omega)
    refine S_iload X dL_law_23 h4 ?_
    refine S_aload_n X dL_law_25 rfl h0 ?_
    refine S_slen X hX hbl hA dL_law_26 ?_
    refine S_bipush X dL_law_27 (by decide) ?_
    refine S_isub X dL_law_29 ?_
    refine S_icmp_gt (tgt := 1351) X dL_law_30 (by decide) (by omega) (by omega) (fun _ => ?_) (fun h9 => ?_)
    · refine S_iconst X dL_law_1351 ?_
      exact S_end X hAs dL_law_1352 (by omega) (by omega)
    have hi : 6 * i + 6 ≤ N := by omega
    refine S_aload_n X dL_law_33 rfl h0 ?_
    refine S_iload X dL_law_34 h4 ?_
    refine S_sld X hX hbl hA (by omega) (by omega) (by omega) dL_law_36 ?_
    refine S_bipush X dL_law_37 (by decide) ?_
    refine S_iand X dL_law_39 ?_
    generalize (xs (6 * (i : Int)).toNat).toInt = y0
    have hr : inR (zAnd y0 63) := zAnd_r _ _
    generalize zAnd y0 63 = y1 at hr
    by_cases hk0 : y1 = 0
    · exact S_tswIn (j := 0) (tgt := 208) X dL_law_40 hk0 rfl (by decide) (by decide) (law_k0 X hU hlf hX hbl hA hN hi hH hI h0 h1 h2 h3 h4 hc hs)
    by_cases hk1 : y1 = 1
    · exact S_tswIn (j := 1) (tgt := 281) X dL_law_40 hk1 rfl (by decide) (by decide) (law_k1 X hU hlf hX hbl hA hN hi hH hI h0 h1 h2 h3 h4 hc hs)
    by_cases hk2 : y1 = 2
    · exact S_tswIn (j := 2) (tgt := 306) X dL_law_40 hk2 rfl (by decide) (by decide) (law_k2 X hU hlf hX hbl hA hN hi hH hI h0 h1 h2 h3 h4 hc hs)
    by_cases hk3 : y1 = 3
    · exact S_tswIn (j := 3) (tgt := 331) X dL_law_40 hk3 rfl (by decide) (by decide) (law_k3 X hU hlf hX hbl hA hN hi hH hI h0 h1 h2 h3 h4 hc hs)
    by_cases hk4 : y1 = 4
    · exact S_tswIn (j := 4) (tgt := 356) X dL_law_40 hk4 rfl (by decide) (by decide) (law_k4 X hU hlf hX hbl hA hN hi hH hI h0 h1 h2 h3 h4 hc hs)
    by_cases hk5 : y1 = 5
    · exact S_tswIn (j := 5) (tgt := 396) X dL_law_40 hk5 rfl (by decide) (by decide) (law_k5 X hU hlf hX hbl hA hN hi hH hI h0 h1 h2 h3 h4 hc hs)
    by_cases hk6 : y1 = 6
    · exact S_tswIn (j := 6) (tgt := 433) X dL_law_40 hk6 rfl (by decide) (by decide) (law_k6 X hU hlf hX hbl hA hN hi hH hI h0 h1 h2 h3 h4 hc hs)
    by_cases hk7 : y1 = 7
    · exact S_tswIn (j := 7) (tgt := 482) X dL_law_40 hk7 rfl (by decide) (by decide) (law_k7 X hU hlf hX hbl hA hN hi hH hI h0 h1 h2 h3 h4 hc hs)
    by_cases hk8 : y1 = 8
    · exact S_tswIn (j := 8) (tgt := 535) X dL_law_40 hk8 rfl (by decide) (by decide) (law_k8 X hU hlf hX hbl hA hN hi hH hI h0 h1 h2 h3 h4 hc hs)
    by_cases hk9 : y1 = 9
    · exact S_tswIn (j := 9) (tgt := 560) X dL_law_40 hk9 rfl (by decide) (by decide) (law_k9 X hU hlf hX hbl hA hN hi hH hI h0 h1 h2 h3 h4 hc hs)
    by_cases hk10 : y1 = 10
    · exact S_tswIn (j := 10) (tgt := 585) X dL_law_40 hk10 rfl (by decide) (by decide) (law_k10 X hU hlf hX hbl hA hN hi hH hI h0 h1 h2 h3 h4 hc hs)
    by_cases hk11 : y1 = 11
    · exact S_tswIn (j := 11) (tgt := 598) X dL_law_40 hk11 rfl (by decide) (by decide) (law_k11 X hU hlf hX hbl hA hN hi hH hI h0 h1 h2 h3 h4 hc hs)
    by_cases hk12 : y1 = 12
    · exact S_tswIn (j := 12) (tgt := 647) X dL_law_40 hk12 rfl (by decide) (by decide) (law_k12 X hU hlf hX hbl hA hN hi hH hI h0 h1 h2 h3 h4 hc hs)
    by_cases hk13 : y1 = 13
    · exact S_tswIn (j := 13) (tgt := 672) X dL_law_40 hk13 rfl (by decide) (by decide) (law_k13 X hU hlf hX hbl hA hN hi hH hI h0 h1 h2 h3 h4 hc hs)
    by_cases hk14 : y1 = 14
    · exact S_tswIn (j := 14) (tgt := 697) X dL_law_40 hk14 rfl (by decide) (by decide) (law_k14 X hU hlf hX hbl hA hN hi hH hI h0 h1 h2 h3 h4 hc hs)
    by_cases hk15 : y1 = 15
    · exact S_tswIn (j := 15) (tgt := 710) X dL_law_40 hk15 rfl (by decide) (by decide) (law_k15 X hU hlf hX hbl hA hN hi hH hI h0 h1 h2 h3 h4 hc hs)
    by_cases hk16 : y1 = 16
    · exact S_tswIn (j := 16) (tgt := 735) X dL_law_40 hk16 rfl (by decide) (by decide) (law_k16 X hU hlf hX hbl hA hN hi hH hI h0 h1 h2 h3 h4 hc hs)
    by_cases hk17 : y1 = 17
    · exact S_tswIn (j := 17) (tgt := 760) X dL_law_40 hk17 rfl (by decide) (by decide) (law_k17 X hU hlf hX hbl hA hN hi hH hI h0 h1 h2 h3 h4 hc hs)
    by_cases hk18 : y1 = 18
    · exact S_tswIn (j := 18) (tgt := 785) X dL_law_40 hk18 rfl (by decide) (by decide) (law_k18 X hU hlf hX hbl hA hN hi hH hI h0 h1 h2 h3 h4 hc hs)
    by_cases hk19 : y1 = 19
    · exact S_tswIn (j := 19) (tgt := 810) X dL_law_40 hk19 rfl (by decide) (by decide) (law_k19 X hU hlf hX hbl hA hN hi hH hI h0 h1 h2 h3 h4 hc hs)
    by_cases hk20 : y1 = 20
    · exact S_tswIn (j := 20) (tgt := 835) X dL_law_40 hk20 rfl (by decide) (by decide) (law_k20 X hU hlf hX hbl hA hN hi hH hI h0 h1 h2 h3 h4 hc hs)
    by_cases hk21 : y1 = 21
    · exact S_tswIn (j := 21) (tgt := 872) X dL_law_40 hk21 rfl (by decide) (by decide) (law_k21 X hU hlf hX hbl hA hN hi hH hI h0 h1 h2 h3 h4 hc hs)
    by_cases hk22 : y1 = 22
    · exact S_tswIn (j := 22) (tgt := 897) X dL_law_40 hk22 rfl (by decide) (by decide) (law_k22 X hU hlf hX hbl hA hN hi hH hI h0 h1 h2 h3 h4 hc hs)
    by_cases hk23 : y1 = 23
    · exact S_tswIn (j := 23) (tgt := 934) X dL_law_40 hk23 rfl (by decide) (by decide) (law_k23 X hU hlf hX hbl hA hN hi hH hI h0 h1 h2 h3 h4 hc hs)
    by_cases hk24 : y1 = 24
    · exact S_tswIn (j := 24) (tgt := 959) X dL_law_40 hk24 rfl (by decide) (by decide) (law_k24 X hU hlf hX hbl hA hN hi hH hI h0 h1 h2 h3 h4 hc hs)
    by_cases hk25 : y1 = 25
    · exact S_tswIn (j := 25) (tgt := 1008) X dL_law_40 hk25 rfl (by decide) (by decide) (law_k25 X hU hlf hX hbl hA hN hi hH hI h0 h1 h2 h3 h4 hc hs)
    by_cases hk26 : y1 = 26
    · exact S_tswIn (j := 26) (tgt := 1033) X dL_law_40 hk26 rfl (by decide) (by decide) (law_k26 X hU hlf hX hbl hA hN hi hH hI h0 h1 h2 h3 h4 hc hs)
    by_cases hk27 : y1 = 27
    · exact S_tswIn (j := 27) (tgt := 1058) X dL_law_40 hk27 rfl (by decide) (by decide) (law_k27 X hU hlf hX hbl hA hN hi hH hI h0 h1 h2 h3 h4 hc hs)
    by_cases hk28 : y1 = 28
    · exact S_tswIn (j := 28) (tgt := 1083) X dL_law_40 hk28 rfl (by decide) (by decide) (law_k28 X hU hlf hX hbl hA hN hi hH hI h0 h1 h2 h3 h4 hc hs)
    by_cases hk29 : y1 = 29
    · exact S_tswIn (j := 29) (tgt := 1108) X dL_law_40 hk29 rfl (by decide) (by decide) (law_k29 X hU hlf hX hbl hA hN hi hH hI h0 h1 h2 h3 h4 hc hs)
    by_cases hk30 : y1 = 30
    · exact S_tswIn (j := 30) (tgt := 1145) X dL_law_40 hk30 rfl (by decide) (by decide) (law_k30 X hU hlf hX hbl hA hN hi hH hI h0 h1 h2 h3 h4 hc hs)
    by_cases hk31 : y1 = 31
    · exact S_tswIn (j := 31) (tgt := 1182) X dL_law_40 hk31 rfl (by decide) (by decide) (law_k31 X hU hlf hX hbl hA hN hi hH hI h0 h1 h2 h3 h4 hc hs)
    by_cases hk32 : y1 = 32
    · exact S_tswIn (j := 32) (tgt := 1219) X dL_law_40 hk32 rfl (by decide) (by decide) (law_k32 X hU hlf hX hbl hA hN hi hH hI h0 h1 h2 h3 h4 hc hs)
    by_cases hk33 : y1 = 33
    · exact S_tswIn (j := 33) (tgt := 1232) X dL_law_40 hk33 rfl (by decide) (by decide) (law_k33 X hU hlf hX hbl hA hN hi hH hI h0 h1 h2 h3 h4 hc hs)
    by_cases hk34 : y1 = 34
    · exact S_tswIn (j := 34) (tgt := 1257) X dL_law_40 hk34 rfl (by decide) (by decide) (law_k34 X hU hlf hX hbl hA hN hi hH hI h0 h1 h2 h3 h4 hc hs)
    by_cases hk35 : y1 = 35
    · exact S_tswIn (j := 35) (tgt := 1294) X dL_law_40 hk35 rfl (by decide) (by decide) (law_k35 X hU hlf hX hbl hA hN hi hH hI h0 h1 h2 h3 h4 hc hs)
    by_cases hk36 : y1 = 36
    · exact S_tswIn (j := 36) (tgt := 1307) X dL_law_40 hk36 rfl (by decide) (by decide) (law_k36 X hU hlf hX hbl hA hN hi hH hI h0 h1 h2 h3 h4 hc hs)
    by_cases hk37 : y1 = 37
    · exact S_tswIn (j := 37) (tgt := 1320) X dL_law_40 hk37 rfl (by decide) (by decide) (law_k37 X hU hlf hX hbl hA hN hi hH hI h0 h1 h2 h3 h4 hc hs)
    refine S_tswOut (tgt := 1345) X dL_law_40 hr (by omega) (by decide) ?_
    exact law_next X hH hI h0 h1 h2 h3 h4 (by omega) (by omega)
end LW
