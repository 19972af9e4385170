/-! A STATIC METHOD CALLED BY THE NAME OF A CLASS BELOW ITS OWN (the kit has this row for virtual calls): first the instruction, then the call, then a row for the walk -/
section UPA
variable {Q : Unit → Pre} {E : CtlPost} {e : Env} {d : Bool} {acts : List Action} {s s₀ : State} {f : JFrame}
/-- linking changes the tables and nothing else of what the instruction does -/
theorem up_link {index ci nt c : Nat} {r : MethodId} {dk ck : Class} {cf : ClassFile} {name desc : String} (top : s.topJava?.isSome) (pol : e.platform.polymorphicOnlyByInvokevirtual = true)
    (warm : s₀.WarmedH s.vm) (ent : s₀.MethodEntryUp e s.vm f.method.cls index c r ci) (cls : s₀.vm.classes[f.method.cls]? = some dk) (file : dk.cf = some cf)
    (ref : cf.constantPool[index]? = some (.methodref ci nt)) (nat : cf.constantPool.nameAndType? nt = some (name, desc))
    (tgt : s₀.vm.classes[c]? = some ck) (plain : (ck.methods.any fun x => x.name == name && !x.isStatic && signaturePolymorphic ck x) = false) :
    wp (Op.invokestatic.sem index) Q E e d acts (s.setTop f) ↔ wp (Op.invokestatic.sem index) Q E e d acts ((s.setVm (s.vm.calledUp f.method.cls ci index c r)).setTop f) := by
  obtain ⟨entC, -, warmC, entM⟩ := ent.classFirst
  obtain ⟨ka, ka1, ka2⟩ := warm.alike.2.2 _ _ cls
  obtain ⟨kb, kb1, kb2⟩ := ent.warmed.alike.2.2 _ _ cls
  obtain ⟨ta, ta1, ta2⟩ := warmC.alike.2.2 _ _ tgt
  obtain ⟨tb, tb1, tb2⟩ := ent.warmed.alike.2.2 _ _ tgt
  have ref' : cf.constantPool[index]? = some (if false then .interfaceMethodref ci nt else .methodref ci nt) := ref
  have askA := memberRef_ask_via (e := e) ka1 (by rw [ka2]; exact file) ref' nat
  have askB := memberRef_ask_via (e := e) kb1 (by rw [kb2]; exact file) ref' nat
  have plainA : (ta.methods.any fun x => x.name == name && !x.isStatic && signaturePolymorphic ta x) = false := by rw [ta2]; exact plain
  have plainB : (tb.methods.any fun x => x.name == name && !x.isStatic && signaturePolymorphic tb x) = false := by rw [tb2]; exact plain
  have topC : (s.setVm (s.vm.noted f.method.cls ci (.cls c))).topJava?.isSome := top
  have topM : (s.setVm (s.vm.calledUp f.method.cls ci index c r)).topJava?.isSome := top
  have goC : ∀ {Q' : ClassId → Pre} {d' : Bool} {acts' : List Action}, wp (Jvm.resolveClassAt ci) Q' E e d' acts' (s.setTop f) ↔ Q' c d' acts' ((s.setVm (s.vm.noted f.method.cls ci (.cls c))).setTop f) := W.resolveClassAt_links (t := s.setTop f) (State.method?_setTop f top) entC
  have goM : ∀ {Q' : MethodId → Pre} {d' : Bool} {acts' : List Action}, wp (Jvm.resolveMethodAt index) Q' E e d' acts' ((s.setVm (s.vm.noted f.method.cls ci (.cls c))).setTop f) ↔ Q' r d' acts' ((s.setVm (s.vm.calledUp f.method.cls ci index c r)).setTop f) := W.resolveMethodAt_links (t := (s.setVm (s.vm.noted f.method.cls ci (.cls c))).setTop f) (State.method?_setTop f topC) entM
  simp [Op.invokestatic.sem, pol, Seam.memberRefOf, State.method?_setTop f top, State.method?_setTop f topM, askA, askB, goC, goM, W.resolveClassAt_ready (s := (s.setVm (s.vm.calledUp f.method.cls ci index c r)).setTop f) (State.method?_setTop f topM) ent.classReady, W.resolveMethodAt_ready (s := (s.setVm (s.vm.calledUp f.method.cls ci index c r)).setTop f) (State.method?_setTop f topM) ent.ready, ta1, tb1, plainA, plainB, -Array.any_eq_true]
end UPA
section UPB
variable {p : Program} {l : Launch} {e : Env} {R : Room} {s : State} {m : MethodId} {args : Array Value} {below : List Frame} {meth : Method} {c : Code} {T : State} {locs : List Loc} {cells slots : Nat}
theorem up_enter (X : Stand p l e R s m args below meth c T locs cells slots) (hexec : p.tables.exec = Jvm.exec) {own owner : String} {index : Nat} {x : MethodName} (hown : s.vm.findClass own = some m.cls)
    (hlink : (Cond.methodLink own index x).before args s = true) (hsame : (Cond.sameMethod x.cls owner x.name x.desc).before args s = true) (hno : owner ≠ "java/lang/invoke/MethodHandle" ∧ owner ≠ "java/lang/invoke/VarHandle")
    {r : MethodId} {rm : Method} {rk : Class} (hr : s.methodNamed? ⟨owner, x.name, x.desc⟩ = some r) (hrm : s.vm.method? r = some rm) (hst : rm.isStatic = true) (hrk : s.vm.classes[r.cls]? = some rk) (hini : rk.init = .initialized)
    {g : JFrame} (hg : g.method = m) {argsL rest : List Value} (hlen : argsL.length = rm.sig.parameters.length) (hstack : g.stack = argsL.reverse ++ rest) (hdg : decode c.code g.pc = .ok (.invokestatic index, 3)) :
    ∃ vm', Stand p l e R s m args below meth c (T.setVm vm') locs cells slots ∧ ∀ target, (∀ acts, Steps p.tables e below (doInvoke e ((T.setVm vm').setTop { g with stack := rest }) acts r argsL.toArray).1 target) → Steps p.tables e below (T.setTop g) target := by
  have plat := X.admits.platform
  obtain ⟨cn, ck, r1, hcn, hck, hni, hf, hr1⟩ := Cond.sameMethod_found hsame
  cases hr.symm.trans hr1
  obtain ⟨ci, hl, hright⟩ := Cond.methodLink_specUp hown hcn hck hni hf hlink e.platform (by rw [plat]) (by rw [plat])
  have ent : s.MethodEntryUp e T.vm m.cls index cn r ci := State.methodEntryUp X.warmed hl hright
  obtain ⟨kx, hkx, hnx⟩ := className_of_methodNamed hr
  cases hrk.symm.trans hkx
  obtain ⟨dk, cfile, nt, mname, mdesc, ck', _, _, hd, hcf, hcp, hnt, -, -, hck', -, hpoly, -⟩ := hl.here
  cases hck.symm.trans hck'
  have like := ent.warmed.alike
  obtain ⟨d2, d21, d22⟩ := like.2.2 _ _ hd
  obtain ⟨r2, r21, r22⟩ := like.2.2 _ _ hrk
  obtain ⟨c2, c21, c22⟩ := like.2.2 _ _ hck
  have plain : (ck.methods.any fun y => y.name == mname && !y.isStatic && signaturePolymorphic ck y) = false := by simp [hpoly]
  have plain2 : (c2.methods.any fun y => y.name == mname && !y.isStatic && signaturePolymorphic c2 y) = false := by rw [c22]; exact plain
  have hcp' : cfile.constantPool[index]? = some (if false then .interfaceMethodref ci nt else .methodref ci nt) := hcp
  refine ⟨T.vm.calledUp m.cls ci index cn r, X.noted ent.warmed, fun target go => ?_⟩
  subst hg
  jvm_step X.here [hexec, hdg, up_link (e := e) (s := T) (s₀ := s) (f := g) X.here.top (by rw [plat]) X.warmed ent hd hcf hcp hnt hck plain,
    invokestatic.wp_ready (e := e) (s := T.setVm (T.vm.calledUp g.method.cls ci index cn r)) (k := r2) (meth := rm) (m := r) (args := argsL) (rest := rest) (f := g)
      X.here.top ⟨ci, mname, mdesc, false, cn, c2, memberRef_ask_via (e := e) d21 (by rw [d22]; exact hcf) hcp' hnt, ent.classReady, c21, plain2⟩ ent.ready r21
      (by show (T.vm.calledUp g.method.cls ci index cn r).method? r = some rm; rw [like.method?]; exact hrm)
      (by rw [r22]; show signaturePolymorphic rk rm = false; simp [signaturePolymorphic, hnx, hno.1, hno.2]) hst (by rw [r22]; exact hini) hlen hstack]
  exact fun acts => go _
end UPB
def LkSU (own : String) (idx : Nat) (owner : String) (x y : MethodName) (b : ByteArray) (n : Nat) (ret : Option FieldType) (k : Nat) : Prop := (Cond.methodLink own idx x ∈ uw ∧ Cond.sameMethod x.cls owner x.name x.desc ∈ uw ∧ Cond.static y ∈ uw ∧ Cond.initialized y.cls ∈ uw ∧ Cond.code y b n ret ∈ uw) ∧ y = ⟨owner, x.name, x.desc⟩ ∧ okD y k
section UPC
variable {p : Program} {l : Launch} {e : Env} {R : Room} {s : State} {m : MethodId} {args : Array Value} {below : List Frame} {meth : Method} {c : Code} {Q : State → Prop} {D : va_G} {G : GG} {A : Nat → Prop} {cc : ByteArray} {nL cells slots pc : Nat} {rt : Option FieldType} {own owner : String} {L : Nat → Option AV} {st : List AV} {ws : EW}
variable {x y : MethodName} {b : ByteArray} {n d mc ms idx k : Nat} {ret : Option FieldType} {av avs rest : List AV} {wc : EW} {is : List Nat}
theorem run_SU (X : Cx p s m args meth c D G A cc nL rt own) (K : LkSU own idx owner x y b n ret k) (hst : st = avs.reverse ++ rest) (hk : avs.length = k) (h8 : rest.length ≤ 8) (hR : d + 1 ≤ R.frames ∧ 8 + (n + 11) + 40 * d ≤ R.locals) (hcs : cells + mc ≤ R.cells ∧ slots + ms ≤ R.slots) (hdg : decode cc pc = .ok (.invokestatic idx, 3)) (hn : va_nd is = true) (hC : is.map (fun i => ws[i]?) = wc.map some) :
    Runs p l e R s m args below meth c D G A nL cells slots pc L st ws y b n ret d mc ms avs wc rest := by
  intro H locs ls hP hD hS hl Qc free hM
  obtain ⟨⟨k1, k2, k3, k4, k5⟩, k6, k7⟩ := K
  have hts := X.2.2.2.2.1
  have hcode := hts _ k5
  intro T hT Y
  obtain ⟨mk, hnamed⟩ := Cond.code_named hcode
  obtain ⟨methM, cM, hmethM, -, -, -, -, -, -, hsigM⟩ := Cond.code_spec hnamed hcode
  have hstat : methM.isStatic = true := Cond.static_spec hnamed hmethM (hts _ k3)
  obtain ⟨kP, hkP, -⟩ := className_of_methodNamed hnamed
  have hinitP : kP.init = .initialized := Cond.initialized_spec (findClass_of_methodNamed hnamed) hkP (hts _ k4)
  have hlen : ((avs.map tV).length : Nat) = methM.sig.parameters.length := by
    have h2 := k7.2.2
    rw [hsigM] at h2
    rw [List.length_map, hk]
    exact (Option.some.inj h2).symm
  obtain ⟨vm₁, Y₁, hstep₁⟩ := up_enter Y X.1 X.2.2.2.1 (hts _ k1) (hts _ k2) (by rw [k6] at k7; exact ⟨k7.1, k7.2.1⟩) (by rw [← k6]; exact hnamed) hmethM hstat hkP hinitP (g := F0 m pc ls (st.map tV)) rfl (argsL := avs.map tV) (rest := rest.map tV) hlen (stk_S hst) (by rw [X.2.1]; exact hdg)
  have hback : Back l R p e below s args y 3 8 (PreOf R mc ms (PcA D G avs wc H.size)) (PostOf Qc mc ms free) :=
    back_of (bytes := b) (maxL := n) (ret := ret) hM pcA_blind rfl rfl hR.1 hR.2 (pay_in hts (uw_cons k5)) List.mem_cons_self (fun a' U hW => word_at hW (Or.inl (by first | rfl | simp [Cond.onTables, Cond.keeps, Cond.steady])) (hts _ k4))
  obtain ⟨v, ⟨U', l2, c2, s2⟩, Y', ⟨g', mk', t, L2, e1, e2, hq, h1, hL, h2, h3⟩, hsteps⟩ := hback m meth c ⟨T.setVm vm₁, locs, cells, slots⟩ (F0 m pc ls (rest.map tV)) (.invokestatic idx) mk (avs.map tV).toArray Y₁ rfl (by show ls.size = _; rw [hl.1, X.2.2.1]) (by rw [X.2.1]; exact hdg) (room8 h8) (Y₁.named hnamed) ⟨hcs.1, hcs.2, pcA_ok X hP hD hS hn hC (T.setVm vm₁) hT Y₁.warmed⟩
  dsimp only [Pt.U, Pt.locs, Pt.cells, Pt.slots] at Y' e1 e2 h1 h2 h3 hsteps
  subst h1; subst h2; subst h3
  exact ⟨v, (T.setVm vm₁).calling g' mk' (avs.map tV).toArray, t, U', L2, hT, Y', hL, e1, e2, hq, fun target h => hstep₁ _ (fun acts => by rw [doInvoke_state]; exact hsteps.trans h)⟩
end UPC
