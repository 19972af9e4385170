/-! WHAT THE LAUNCH GIVES -/
theorem sel_priv {y x x0 : MethodName} {C : String} {s : State} {args : Array Value} {n : Nat} (hy : y.cls ≠ "java/lang/invoke/MethodHandle" ∧ y.cls ≠ "java/lang/invoke/VarHandle") (hC : (Cond.instantiable C n).before args s = true) (hpriv : (Cond.privateMethod y).before args s = true) (hinst : (Cond.instanceMethod y).before args s = true) (hx : (Cond.selects C x0 x).before args s = true) (hxy : x.cls = y.cls) : (Cond.selects C y y).before args s = true := by
  obtain ⟨c, k, hc, hk, -⟩ := Cond.instantiable_spec hC
  obtain ⟨mk, methM, hnamed, hmethM, -, -⟩ := Cond.instanceMethod_spec hinst
  have hfound := State.methodFound?_of_named hnamed hy
  have hsel := selectMethod_private (p := {}) (c := c) hmethM (Cond.privateMethod_at hpriv mk methM hnamed hmethM)
  obtain ⟨c2, r2, m2, q1, q2, q3, q4, kk, q5, q6⟩ := Cond.selects_spec hx
  have e1 := findClass_of_methodNamed hnamed
  have e2 := findClass_of_methodNamed q3
  rw [hxy] at e2
  have e3 : mk.cls = m2.cls := Option.some.inj (e1.symm.trans e2)
  simp [Cond.before, Cond.holds, Cond.value, hc, hfound, hnamed, hsel, e3, q5, q6]
theorem uw_tbl {args : Array Value} {s : State} (hts : ∀ w ∈ lw_tbl, w.before args s = true) : ∀ w ∈ uw, w.before args s = true := by
  intro w hw
  rcases List.mem_append.mp (List.mem_filter.mp hw).1 with h | h
  · exact hts w h
  · have hp := hts _ (mT3 (List.mem_of_getElem? (i := 38) rfl))
    have hi := hts _ (mT3 (List.mem_of_getElem? (i := 39) rfl))
    unfold exW at h
    rcases List.mem_cons.mp h with rfl | h
    · exact sel_priv (y := ncM) ⟨by decide +kernel, by decide +kernel⟩ (hts _ (mT1 (List.mem_of_getElem? (i := 122) rfl))) hp hi (hts _ (mT2 (List.mem_of_getElem? (i := 178) rfl))) rfl
    · rcases List.mem_cons.mp h with rfl | h
      · exact sel_priv (y := ncM) ⟨by decide +kernel, by decide +kernel⟩ (hts _ (mT1 (List.mem_of_getElem? (i := 48) rfl))) hp hi (hts _ (mT2 (List.mem_of_getElem? (i := 179) rfl))) rfl
      · exact absurd h List.not_mem_nil
theorem nw_tbl {args : Array Value} {s : State} (hts : ∀ w ∈ lw_tbl, w.before args s = true) : ∀ w ∈ nw, va_Nw w s := by
  intro w hw
  have h1 := hts w (List.mem_filter.mp hw).1
  rcases nw_nest hw with ⟨a, i, x, b, rfl⟩ | ⟨x, rfl⟩ | ⟨C, rfl⟩ | ⟨a, b, rfl⟩
  · exact va_Nw.of rfl h1
  · exact va_Nw.of rfl h1
  · exact va_AO.of h1
  · exact va_Nw.of rfl h1
theorem arr_tbl {args : Array Value} {s : State} {ty : FieldType} (hno : ∀ C, ty ≠ .object C) (h : (Cond.arrayClass ty).before args s = true) (hra : ∀ c, s.vm.findClass ("[" ++ ty.toString) = some c → va_RA s c ty) : ∃ cA : ClassId, ArrOfT s cA ty ∧ va_RA s cA ty := by
  obtain ⟨c, k, comp, h1, h2, h3⟩ := Cond.arrayClass_spec h
  exact ⟨c, fun n z => ⟨fun k9 h9 => (by cases h9), k, h2, comp, h3⟩, hra c h1⟩
theorem vaK_tbl {args : Array Value} {s : State} (hts : ∀ w ∈ lw_tbl, w.before args s = true) : ∃ (D : va_G) (G : GG), va_K D vwCl (tyG G) s := by
  have hu := uw_tbl hts
  have h0 : ∀ c : Nat, ∃ r : ClassId × (Nat → Nat), ∀ q, vwCl[c]? = some q → u_Kn s q.1 q.2.1 q.2.2 r.1 r.2 := by
    intro c
    by_cases hc0 : c = 0
    · subst hc0
      obtain ⟨cC, iS, h⟩ := u_known hu iuX0 (hts (Cond.instantiable "BorrowedBeat$Diary" 7) (mT1 (List.mem_of_getElem? (i := 142) rfl)))
      exact ⟨(cC, iS), fun q hq => by cases hq; exact h⟩
    by_cases hc1 : c = 1
    · subst hc1
      obtain ⟨cC, iS, h⟩ := u_known hu iuX1 (hts (Cond.instantiable "BorrowedBeat$Law" 5) (mT3 (List.mem_of_getElem? (i := 90) rfl)))
      exact ⟨(cC, iS), fun q hq => by cases hq; exact h⟩
    by_cases hc2 : c = 2
    · subst hc2
      obtain ⟨cC, iS, h⟩ := u_known hu iuX2 (hts (Cond.instantiable "BorrowedBeat$LawReader" 5) (mT1 (List.mem_of_getElem? (i := 122) rfl)))
      exact ⟨(cC, iS), fun q hq => by cases hq; exact h⟩
    by_cases hc3 : c = 3
    · subst hc3
      obtain ⟨cC, iS, h⟩ := u_known hu iuX3 (hts (Cond.instantiable "BorrowedBeat$MarkSearch" 5) (mT2 (List.mem_of_getElem? (i := 21) rfl)))
      exact ⟨(cC, iS), fun q hq => by cases hq; exact h⟩
    by_cases hc4 : c = 4
    · subst hc4
      obtain ⟨cC, iS, h⟩ := u_known hu iuX4 (hts (Cond.instantiable "BorrowedBeat$Play" 9) (mT1 (List.mem_of_getElem? (i := 224) rfl)))
      exact ⟨(cC, iS), fun q hq => by cases hq; exact h⟩
    by_cases hc5 : c = 5
    · subst hc5
      obtain ⟨cC, iS, h⟩ := u_known hu iuX6 (hts (Cond.instantiable "BorrowedBeat$Score" 8) (mT1 (List.mem_of_getElem? (i := 173) rfl)))
      exact ⟨(cC, iS), fun q hq => by cases hq; exact h⟩
    by_cases hc6 : c = 6
    · subst hc6
      obtain ⟨cC, iS, h⟩ := u_known hu iuX7 (hts (Cond.instantiable "BorrowedBeat$Tape" 2) (mT1 (List.mem_of_getElem? (i := 31) rfl)))
      exact ⟨(cC, iS), fun q hq => by cases hq; exact h⟩
    by_cases hc7 : c = 7
    · subst hc7
      obtain ⟨cC, iS, h⟩ := u_known hu iuX8 (hts (Cond.instantiable "BorrowedBeat$Town" 7) (mT1 (List.mem_of_getElem? (i := 57) rfl)))
      exact ⟨(cC, iS), fun q hq => by cases hq; exact h⟩
    by_cases hc8 : c = 8
    · subst hc8
      obtain ⟨cC, iS, h⟩ := u_known hu iuX9 (hts (Cond.instantiable "BorrowedBeat$TownReader" 5) (mT1 (List.mem_of_getElem? (i := 48) rfl)))
      exact ⟨(cC, iS), fun q hq => by cases hq; exact h⟩
    by_cases hc9 : c = 9
    · subst hc9
      obtain ⟨cC, iS, h⟩ := u_known hu iuX10 (hts (Cond.instantiable "BorrowedBeat$WeekSearch" 7) (mT2 (List.mem_of_getElem? (i := 45) rfl)))
      exact ⟨(cC, iS), fun q hq => by cases hq; exact h⟩
    by_cases hc10 : c = 10
    · subst hc10
      obtain ⟨cC, iS, h⟩ := u_known hu iuX11 (hts (Cond.instantiable "BorrowedBeat" 16) (mT1 (List.mem_of_getElem? (i := 23) rfl)))
      exact ⟨(cC, iS), fun q hq => by cases hq; exact h⟩
    by_cases hc11 : c = 11
    · subst hc11
      obtain ⟨cC, iS, h⟩ := u_known hu iuX12 (hts (Cond.instantiable "BorrowedBeatModel" 50) (mT5 (List.mem_of_getElem? (i := 107) rfl)))
      exact ⟨(cC, iS), fun q hq => by cases hq; exact h⟩
    obtain ⟨cC, iS, h⟩ := u_known hu iuX0 (hts (Cond.instantiable "BorrowedBeat$Diary" 7) (mT1 (List.mem_of_getElem? (i := 142) rfl)))
    refine ⟨(cC, iS), fun q hq => ?_⟩
    have hl : c < vwCl.length := (List.getElem?_eq_some_iff.mp hq).1
    have hl2 : vwCl.length = 12 := rfl
    omega
  obtain ⟨f, hf⟩ := Classical.axiomOfChoice h0
  obtain ⟨cI, a1, a2⟩ := arr_tbl (ty := .int) (fun C h => by cases h) (hts _ (mT1 (List.mem_of_getElem? (i := 46) rfl))) (fun c h => h)
  obtain ⟨cJ, b1, b2⟩ := arr_tbl (ty := .long) (fun C h => by cases h) (hts _ (mT7 (List.mem_of_getElem? (i := 162) rfl))) (fun c h => h)
  obtain ⟨comp, cQ, k, q1, q2, q3, q4, q5⟩ := Cond.arrayOver_spec (hts (Cond.arrayOver (.object "BorrowedBeat$Law")) (mT1 (List.mem_of_getElem? (i := 140) rfl)))
  refine ⟨(fun c => (f c).1, fun c => (f c).2), (cI, cQ, cJ), fun c q hq => hf c q hq, fun j q hq => ?_⟩
  by_cases h1 : j = 0
  · subst h1; cases hq; exact ⟨a1, a2⟩
  by_cases h2 : j = 1
  · subst h2; cases hq; exact ⟨fun n z => ⟨fun k9 h9 => (by cases h9), k, q3, comp, q4⟩, k, comp, q3, q4, q1, q5⟩
  by_cases h3 : j = 2
  · subst h3; cases hq; exact ⟨b1, b2⟩
  have hl := (List.getElem?_eq_some_iff.mp hq).1
  have hl2 : (tyG (cI, cQ, cJ)).length = 3 := rfl
  omega
theorem ev_tbl {b : Nat} {s : State} (hts : ∀ w ∈ lw_tbl, w.before #[Value.ref b] s = true) (hg : (Jvm.Cond.and given_1 narrow_1).before #[Value.ref b] s = true) : Ev (fun q => s.heap.size ≤ q) s s.heap := by
  have hs := flat_of_before _ hg
  have hA : ∀ a : Nat, a < s.heap.size → ¬ (s.heap.size ≤ a) := fun a h => Nat.not_le.mpr h
  have eLEAST : ∀ j : Nat, j < 5 → (Term.elem (Term.static "BorrowedBeat$TownReader" "LEAST" "[I") (.int (Int32.ofNat j))).eval #[Value.ref b] s none [] s = some (fTL j) := by
    intro j hj
    by_cases h0 : j = 0
    · subst h0; exact va_eqt (hs (Cond.eq (.elem (Term.static "BorrowedBeat$TownReader" "LEAST" "[I") (.int (Int32.ofNat 0))) (.int (i32 1))) (by decide +kernel))
    by_cases h1 : j = 1
    · subst h1; exact va_eqt (hs (Cond.eq (.elem (Term.static "BorrowedBeat$TownReader" "LEAST" "[I") (.int (Int32.ofNat 1))) (.int (i32 0))) (by decide +kernel))
    by_cases h2 : j = 2
    · subst h2; exact va_eqt (hs (Cond.eq (.elem (Term.static "BorrowedBeat$TownReader" "LEAST" "[I") (.int (Int32.ofNat 2))) (.int (i32 0))) (by decide +kernel))
    by_cases h3 : j = 3
    · subst h3; exact va_eqt (hs (Cond.eq (.elem (Term.static "BorrowedBeat$TownReader" "LEAST" "[I") (.int (Int32.ofNat 3))) (.int (i32 0))) (by decide +kernel))
    by_cases h4 : j = 4
    · subst h4; exact va_eqt (hs (Cond.eq (.elem (Term.static "BorrowedBeat$TownReader" "LEAST" "[I") (.int (Int32.ofNat 4))) (.int (i32 0))) (by decide +kernel))
    omega
  obtain ⟨tLEAST, aLEAST, bLEAST⟩ := va_Tof (args := #[Value.ref b]) (s := s) (tm := (Term.static "BorrowedBeat$TownReader" "LEAST" "[I")) (ty := .int) (N := 5) (f := fTL) (A := fun q => s.heap.size ≤ q) (by decide) (hs _ (by decide +kernel)) (va_eqt (hs (Cond.eq (.length (Term.static "BorrowedBeat$TownReader" "LEAST" "[I")) (.int (Int32.ofNat 5))) (by decide +kernel))) eLEAST hA
  have eMOST : ∀ j : Nat, j < 5 → (Term.elem (Term.static "BorrowedBeat$TownReader" "MOST" "[I") (.int (Int32.ofNat j))).eval #[Value.ref b] s none [] s = some (fTM j) := by
    intro j hj
    by_cases h0 : j = 0
    · subst h0; exact va_eqt (hs (Cond.eq (.elem (Term.static "BorrowedBeat$TownReader" "MOST" "[I") (.int (Int32.ofNat 0))) (.int (i32 99))) (by decide +kernel))
    by_cases h1 : j = 1
    · subst h1; exact va_eqt (hs (Cond.eq (.elem (Term.static "BorrowedBeat$TownReader" "MOST" "[I") (.int (Int32.ofNat 1))) (.int (i32 9))) (by decide +kernel))
    by_cases h2 : j = 2
    · subst h2; exact va_eqt (hs (Cond.eq (.elem (Term.static "BorrowedBeat$TownReader" "MOST" "[I") (.int (Int32.ofNat 2))) (.int (i32 3))) (by decide +kernel))
    by_cases h3 : j = 3
    · subst h3; exact va_eqt (hs (Cond.eq (.elem (Term.static "BorrowedBeat$TownReader" "MOST" "[I") (.int (Int32.ofNat 3))) (.int (i32 5))) (by decide +kernel))
    by_cases h4 : j = 4
    · subst h4; exact va_eqt (hs (Cond.eq (.elem (Term.static "BorrowedBeat$TownReader" "MOST" "[I") (.int (Int32.ofNat 4))) (.int (i32 10))) (by decide +kernel))
    omega
  obtain ⟨tMOST, aMOST, bMOST⟩ := va_Tof (args := #[Value.ref b]) (s := s) (tm := (Term.static "BorrowedBeat$TownReader" "MOST" "[I")) (ty := .int) (N := 5) (f := fTM) (A := fun q => s.heap.size ≤ q) (by decide) (hs _ (by decide +kernel)) (va_eqt (hs (Cond.eq (.length (Term.static "BorrowedBeat$TownReader" "MOST" "[I")) (.int (Int32.ofNat 5))) (by decide +kernel))) eMOST hA
  exact ⟨nw_tbl hts, tLEAST, tMOST, va_Zof (hts _ (mT3 (List.mem_of_getElem? (i := 23) rfl))) (hts _ (mT1 (List.mem_of_getElem? (i := 4) rfl))) aLEAST hA, bLEAST, va_Zof (hts _ (mT3 (List.mem_of_getElem? (i := 25) rfl))) (hts _ (mT1 (List.mem_of_getElem? (i := 4) rfl))) aMOST hA, bMOST⟩
theorem xu_tbl {b : Nat} {s : State} (hts : ∀ w ∈ lw_tbl, w.before #[Value.ref b] s = true) (hg : (Jvm.Cond.and given_1 narrow_1).before #[Value.ref b] s = true) : XU (fun q => s.heap.size ≤ q) s s.heap := by
  have hs := flat_of_before _ hg
  have hA : ∀ a : Nat, a < s.heap.size → ¬ (s.heap.size ≤ a) := fun a h => Nat.not_le.mpr h
  obtain ⟨s1, c1, ce1, k1, x1, -⟩ := Cond.exactly_spec (args := #[Value.ref b]) (first := s) (o := none) (s := s) (idx := []) (t := .string "BorrowedBeat" 153) (cls := "java/lang/String") (hs (Cond.exactly (.string "BorrowedBeat" 153) "java/lang/String") (by decide +kernel))
  obtain ⟨s2, c2, ce2, k2, x2, -⟩ := Cond.exactly_spec (args := #[Value.ref b]) (first := s) (o := none) (s := s) (idx := []) (t := .string "BorrowedBeat" 177) (cls := "java/lang/String") (hs (Cond.exactly (.string "BorrowedBeat" 177) "java/lang/String") (by decide +kernel))
  exact ⟨⟨s1, vk_R.of (hts _ (mT5 (List.mem_of_getElem? (i := 78) rfl))) x1⟩, ⟨s2, vk_R.of (hts _ (mT5 (List.mem_of_getElem? (i := 105) rfl))) x2⟩, vx_Zqof (hts _ (mT5 (List.mem_of_getElem? (i := 66) rfl))) (hts _ (mT1 (List.mem_of_getElem? (i := 17) rfl))) (hs _ (by decide +kernel)) hA, vx_Zqof (hts _ (mT5 (List.mem_of_getElem? (i := 68) rfl))) (hts _ (mT1 (List.mem_of_getElem? (i := 17) rfl))) (hs _ (by decide +kernel)) hA⟩
/-! THE TWO OBJECTS AS THEIR CONSTRUCTORS LEAVE THEM -/
theorem fz0 {P : Nat → Prop} : ∀ k, k < 0 → P k := fun k h => absurd h (Nat.not_lt_zero k)
theorem fzS {P : Nat → Prop} {n : Nat} (h : ∀ k, k < n → P k) (h2 : P n) : ∀ k, k < n + 1 → P k := fun k hk => by
  by_cases e : k = n
  · rw [e]; exact h2
  · exact h k (by omega)
theorem tE_o {G : GG} {ci n : Nat} {f f2 : Nat → AV} (hn : nF ci = n) (h : ∀ k, k < n → f k = f2 k) : tE G (ob ci f) = tE G (ob ci f2) := by
  unfold tE
  have e : (List.range (nF ci)).map (fun k => tV (f k)) = (List.range (nF ci)).map (fun k => tV (f2 k)) := List.map_congr_left (fun k hk => by rw [h k (by rw [← hn]; exact List.mem_range.mp hk)])
  show (Sum.inr (ci, (List.range (nF ci)).map (fun k => tV (f k))) : va_E) = Sum.inr (ci, (List.range (nF ci)).map (fun k => tV (f2 k)))
  rw [e]
theorem tw_c {G : GG} {q : Nat} {x y : EE} {l l2 : EW} (h : tE G x = tE G y) (k : tW G l = tW G l2) : tW G ((q, x) :: l) = tW G ((q, y) :: l2) := by
  show (q, tE G x) :: tW G l = (q, tE G y) :: tW G l2
  rw [h, k]
def v00 : Nat → Int := fun k => match k with
  | 0 => 20
  | 2 => -1
  | 9 => 60
  | 14 => 60
  | 21 => 9
  | 25 => 9
  | _ => 0
def w00 : Nat → Int := fun k => match k with
  | 27 => -1
  | 28 => 9
  | 30 => 20
  | _ => 0
def g00 : Nat → Int → Int := fun _ _ => 0
def R00 : Int → Int → Int := fun _ _ => 0
def y00 : Nat → LwY := fun _ => lwY0 (fun _ => 0) (fun _ => 0) 0 0
set_option maxRecDepth 100000 in
set_option maxHeartbeats 4000000 in
theorem n11 {h0 : Nat} {u : EW} (hu : ∃ ht : Nat, ∃ hb : Nat, ∃ oR : Nat, ∃ od : Nat, ∃ dB : Nat, ∃ dD : Nat, ∃ dK : Nat, ∃ dF : Nat, ∃ dH : Nat, ∃ oZ : Nat, ∃ hC : Nat, ∃ oW : Nat, ∃ wB : Nat, ∃ wD : Nat, ∃ wK : Nat, ∃ wF : Nat, ∃ wH : Nat, ∃ oA : Nat, ∃ oD : Nat, ∃ dI : Nat, ∃ dR : Nat, ∃ hTo : Nat, ∃ oS : Nat, ∃ aB : Nat, ∃ aF : Nat, ∃ aH : Nat, ∃ aL : Nat, ∃ oT : Nat, ∃ tB : Nat, ∃ tF : Nat, ∃ tH : Nat, ∃ tL : Nat, ∃ oP : Nat, ∃ aA : Nat, ∃ aT : Nat, ∃ aW : Nat, ∃ aS : Nat, ∃ oM : Nat, ∃ mC : Nat, ∃ mM : Nat, ∃ mS : Nat, ∃ oK : Nat, ∃ kW : Nat, ∃ kB : Nat, u = [(h0, ob 10 (uF (uF (uF (uF (uF (uF (uF (uF (uF (uF (uF (uF (uF (uF fzX11 0 (rv ht)) 1 (rv oR)) 2 (rv oZ)) 3 (rv oW)) 4 (rv oA)) 5 (rv oD)) 6 (rv hTo)) 7 (rv oS)) 8 (rv oT)) 9 (rv oP)) 10 (rv oM)) 11 (rv oK)) 12 (iv 20)) 14 (iv (-1)))), (ht, ob 6 (uF fzX7 0 (rv hb))), (hb, ar 160 (fun _ => 0)), (oR, ob 8 (uF (uF fzX9 0 (rv ht)) 3 (rv od))), (od, ob 7 (uF (uF (uF (uF (uF (uF fzX8 1 (iv 60)) 2 (rv dB)) 3 (rv dD)) 4 (rv dK)) 5 (rv dF)) 6 (rv dH))), (dB, ar 6 (fun _ => 0)), (dD, ar 6 (fun _ => 0)), (dK, ar 6 (fun _ => 0)), (dF, ar 6 (fun _ => 0)), (dH, ar 6 (fun _ => 0)), (oZ, ob 2 (uF (uF fzX2 0 (rv ht)) 3 (rv hC))), (hC, ar 160 (fun _ => 0)), (oW, ob 7 (uF (uF (uF (uF (uF (uF fzX8 1 (iv 60)) 2 (rv wB)) 3 (rv wD)) 4 (rv wK)) 5 (rv wF)) 6 (rv wH))), (wB, ar 6 (fun _ => 0)), (wD, ar 6 (fun _ => 0)), (wK, ar 6 (fun _ => 0)), (wF, ar 6 (fun _ => 0)), (wH, ar 6 (fun _ => 0)), (oA, aq 4 (fun _ => none)), (oD, ob 0 (uF (uF fzX0 5 (rv dI)) 6 (rv dR))), (dI, ar 6 (fun _ => 0)), (dR, ar 360 (fun _ => 0)), (hTo, ar 60 (fun _ => 0)), (oS, ob 5 (uF (uF (uF (uF (uF fzX6 1 (iv 9)) 4 (rv aB)) 5 (rv aF)) 6 (rv aH)) 7 (rv aL))), (aB, ar 6 (fun _ => 0)), (aF, ar 6 (fun _ => 0)), (aH, ar 6 (fun _ => 0)), (aL, ar 6 (fun _ => 0)), (oT, ob 5 (uF (uF (uF (uF (uF fzX6 1 (iv 9)) 4 (rv tB)) 5 (rv tF)) 6 (rv tH)) 7 (rv tL))), (tB, ar 6 (fun _ => 0)), (tF, ar 6 (fun _ => 0)), (tH, ar 6 (fun _ => 0)), (tL, ar 6 (fun _ => 0)), (oP, ob 4 (uF (uF (uF (uF fzX4 0 (rv aA)) 1 (rv aT)) 2 (rv aW)) 3 (rv aS))), (aA, ar 1206 (fun _ => 0)), (aT, ar 180 (fun _ => 0)), (aW, ar 6 (fun _ => 0)), (aS, ar 30 (fun _ => 0)), (oM, ob 3 (uF (uF (uF fzX3 2 (rv mC)) 3 (rv mM)) 4 (rv mS))), (mC, ar 31 (fun _ => 0)), (mM, ar 31 (fun _ => 0)), (mS, ar 6 (fun _ => 0)), (oK, ob 9 (uF (uF (uF (uF fzX10 5 (rv kW)) 6 (rv kB)) 3 (rv oP)) 4 (rv oT))), (kW, ar 6 (fun _ => 0)), (kB, ar 42 (fun _ => 0))]) : ∃ (a : Nat → Nat) (u9 : EW), u.Perm u9 ∧ a 19 = h0 ∧ ∀ G, tW G u9 = tW G (CW a v00 g00 R00 [] y00) := by
  obtain ⟨ht, hb, oR, od, dB, dD, dK, dF, dH, oZ, hC, oW, wB, wD, wK, wF, wH, oA, oD, dI, dR, hTo, oS, aB, aF, aH, aL, oT, tB, tF, tH, tL, oP, aA, aT, aW, aS, oM, mC, mM, mS, oK, kW, kB, rfl⟩ := hu
  refine ⟨fun k => match k with
    | 0 => dI
    | 1 => dR
    | 2 => hTo
    | 3 => oT
    | 4 => tB
    | 5 => tF
    | 6 => tH
    | 7 => tL
    | 8 => oP
    | 9 => aA
    | 10 => aT
    | 11 => aW
    | 12 => aS
    | 13 => oM
    | 14 => mC
    | 15 => mM
    | 16 => mS
    | 17 => kW
    | 18 => kB
    | 19 => h0
    | 20 => ht
    | 21 => hb
    | 22 => oR
    | 23 => od
    | 24 => dB
    | 25 => dD
    | 26 => dK
    | 27 => dF
    | 28 => dH
    | 29 => oZ
    | 30 => hC
    | 31 => oW
    | 32 => wB
    | 33 => wD
    | 34 => wK
    | 35 => wF
    | 36 => wH
    | 37 => oS
    | 38 => aB
    | 39 => aF
    | 40 => aH
    | 41 => aL
    | 42 => oD
    | 43 => oK
    | 44 => oA
    | _ => 0, [(dI, ar 6 (fun _ => 0)), (dR, ar 360 (fun _ => 0)), (hTo, ar 60 (fun _ => 0)), (oT, ob 5 (uF (uF (uF (uF (uF fzX6 1 (iv 9)) 4 (rv tB)) 5 (rv tF)) 6 (rv tH)) 7 (rv tL))), (tB, ar 6 (fun _ => 0)), (tF, ar 6 (fun _ => 0)), (tH, ar 6 (fun _ => 0)), (tL, ar 6 (fun _ => 0)), (oP, ob 4 (uF (uF (uF (uF fzX4 0 (rv aA)) 1 (rv aT)) 2 (rv aW)) 3 (rv aS))), (aA, ar 1206 (fun _ => 0)), (aT, ar 180 (fun _ => 0)), (aW, ar 6 (fun _ => 0)), (aS, ar 30 (fun _ => 0)), (oM, ob 3 (uF (uF (uF fzX3 2 (rv mC)) 3 (rv mM)) 4 (rv mS))), (mC, ar 31 (fun _ => 0)), (mM, ar 31 (fun _ => 0)), (mS, ar 6 (fun _ => 0)), (kW, ar 6 (fun _ => 0)), (kB, ar 42 (fun _ => 0)), (h0, ob 10 (uF (uF (uF (uF (uF (uF (uF (uF (uF (uF (uF (uF (uF (uF fzX11 0 (rv ht)) 1 (rv oR)) 2 (rv oZ)) 3 (rv oW)) 4 (rv oA)) 5 (rv oD)) 6 (rv hTo)) 7 (rv oS)) 8 (rv oT)) 9 (rv oP)) 10 (rv oM)) 11 (rv oK)) 12 (iv 20)) 14 (iv (-1)))), (ht, ob 6 (uF fzX7 0 (rv hb))), (hb, ar 160 (fun _ => 0)), (oR, ob 8 (uF (uF fzX9 0 (rv ht)) 3 (rv od))), (od, ob 7 (uF (uF (uF (uF (uF (uF fzX8 1 (iv 60)) 2 (rv dB)) 3 (rv dD)) 4 (rv dK)) 5 (rv dF)) 6 (rv dH))), (dB, ar 6 (fun _ => 0)), (dD, ar 6 (fun _ => 0)), (dK, ar 6 (fun _ => 0)), (dF, ar 6 (fun _ => 0)), (dH, ar 6 (fun _ => 0)), (oZ, ob 2 (uF (uF fzX2 0 (rv ht)) 3 (rv hC))), (hC, ar 160 (fun _ => 0)), (oW, ob 7 (uF (uF (uF (uF (uF (uF fzX8 1 (iv 60)) 2 (rv wB)) 3 (rv wD)) 4 (rv wK)) 5 (rv wF)) 6 (rv wH))), (wB, ar 6 (fun _ => 0)), (wD, ar 6 (fun _ => 0)), (wK, ar 6 (fun _ => 0)), (wF, ar 6 (fun _ => 0)), (wH, ar 6 (fun _ => 0)), (oS, ob 5 (uF (uF (uF (uF (uF fzX6 1 (iv 9)) 4 (rv aB)) 5 (rv aF)) 6 (rv aH)) 7 (rv aL))), (aB, ar 6 (fun _ => 0)), (aF, ar 6 (fun _ => 0)), (aH, ar 6 (fun _ => 0)), (aL, ar 6 (fun _ => 0)), (oD, ob 0 (uF (uF fzX0 5 (rv dI)) 6 (rv dR))), (oK, ob 9 (uF (uF (uF (uF fzX10 5 (rv kW)) 6 (rv kB)) 3 (rv oP)) 4 (rv oT))), (oA, aq 4 (fun _ => none))], ?_, rfl, fun G => ?_⟩
  · exact perm_idx (is := [20, 21, 22, 28, 29, 30, 31, 32, 33, 34, 35, 36, 37, 38, 39, 40, 41, 43, 44, 0, 1, 2, 3, 4, 5, 6, 7, 8, 9, 10, 11, 12, 13, 14, 15, 16, 17, 23, 24, 25, 26, 27, 19, 42, 18]) (show List.Perm [20, 21, 22, 28, 29, 30, 31, 32, 33, 34, 35, 36, 37, 38, 39, 40, 41, 43, 44, 0, 1, 2, 3, 4, 5, 6, 7, 8, 9, 10, 11, 12, 13, 14, 15, 16, 17, 23, 24, 25, 26, 27, 19, 42, 18] (List.range 45) by decide +kernel)
  refine tw_c rfl ?_
  refine tw_c rfl ?_
  refine tw_c rfl ?_
  refine tw_c (tE_o (n := 8) rfl (fzS (fzS (fzS (fzS (fzS (fzS (fzS (fzS fz0 rfl) rfl) rfl) rfl) rfl) rfl) rfl) rfl)) ?_
  refine tw_c rfl ?_
  refine tw_c rfl ?_
  refine tw_c rfl ?_
  refine tw_c rfl ?_
  refine tw_c (tE_o (n := 9) rfl (fzS (fzS (fzS (fzS (fzS (fzS (fzS (fzS (fzS fz0 rfl) rfl) rfl) rfl) rfl) rfl) rfl) rfl) rfl)) ?_
  refine tw_c rfl ?_
  refine tw_c rfl ?_
  refine tw_c rfl ?_
  refine tw_c rfl ?_
  refine tw_c (tE_o (n := 5) rfl (fzS (fzS (fzS (fzS (fzS fz0 rfl) rfl) rfl) rfl) rfl)) ?_
  refine tw_c rfl ?_
  refine tw_c rfl ?_
  refine tw_c rfl ?_
  refine tw_c rfl ?_
  refine tw_c rfl ?_
  refine tw_c (tE_o (n := 16) rfl (fzS (fzS (fzS (fzS (fzS (fzS (fzS (fzS (fzS (fzS (fzS (fzS (fzS (fzS (fzS (fzS fz0 rfl) rfl) rfl) rfl) rfl) rfl) rfl) rfl) rfl) rfl) rfl) rfl) rfl) rfl) rfl) rfl)) ?_
  refine tw_c (tE_o (n := 2) rfl (fzS (fzS fz0 rfl) rfl)) ?_
  refine tw_c rfl ?_
  refine tw_c (tE_o (n := 5) rfl (fzS (fzS (fzS (fzS (fzS fz0 rfl) rfl) rfl) rfl) rfl)) ?_
  refine tw_c (tE_o (n := 7) rfl (fzS (fzS (fzS (fzS (fzS (fzS (fzS fz0 rfl) rfl) rfl) rfl) rfl) rfl) rfl)) ?_
  refine tw_c rfl ?_
  refine tw_c rfl ?_
  refine tw_c rfl ?_
  refine tw_c rfl ?_
  refine tw_c rfl ?_
  refine tw_c (tE_o (n := 5) rfl (fzS (fzS (fzS (fzS (fzS fz0 rfl) rfl) rfl) rfl) rfl)) ?_
  refine tw_c rfl ?_
  refine tw_c (tE_o (n := 7) rfl (fzS (fzS (fzS (fzS (fzS (fzS (fzS fz0 rfl) rfl) rfl) rfl) rfl) rfl) rfl)) ?_
  refine tw_c rfl ?_
  refine tw_c rfl ?_
  refine tw_c rfl ?_
  refine tw_c rfl ?_
  refine tw_c rfl ?_
  refine tw_c (tE_o (n := 8) rfl (fzS (fzS (fzS (fzS (fzS (fzS (fzS (fzS fz0 rfl) rfl) rfl) rfl) rfl) rfl) rfl) rfl)) ?_
  refine tw_c rfl ?_
  refine tw_c rfl ?_
  refine tw_c rfl ?_
  refine tw_c rfl ?_
  refine tw_c (tE_o (n := 7) rfl (fzS (fzS (fzS (fzS (fzS (fzS (fzS fz0 rfl) rfl) rfl) rfl) rfl) rfl) rfl)) ?_
  refine tw_c (tE_o (n := 7) rfl (fzS (fzS (fzS (fzS (fzS (fzS (fzS fz0 rfl) rfl) rfl) rfl) rfl) rfl) rfl)) ?_
  refine tw_c ?_ ?_
  · have e9 : (fun _ : Int => (none : Option Nat)) = lwR [] := by funext j; unfold lwR; simp
    rw [e9]
  rfl
set_option maxRecDepth 100000 in
set_option maxHeartbeats 4000000 in
theorem n12 {h0 : Nat} {u : EW} (hu : ∃ y1 : Nat, ∃ y6 : Nat, ∃ y7 : Nat, ∃ y8 : Nat, ∃ y9 : Nat, ∃ y10 : Nat, ∃ y11 : Nat, ∃ y12 : Nat, ∃ y15 : Nat, ∃ y16 : Nat, ∃ y17 : Nat, ∃ y20 : Nat, ∃ y23 : Nat, ∃ y24 : Nat, ∃ y31 : Nat, ∃ y33 : Nat, ∃ y34 : Nat, ∃ y35 : Nat, ∃ y36 : Nat, ∃ y37 : Nat, ∃ y40 : Nat, ∃ y41 : Nat, ∃ y42 : Nat, ∃ y43 : Nat, ∃ y44 : Nat, ∃ y45 : Nat, ∃ y47 : Nat, u = [(h0, ob 11 (uF (uF (uF (uF (uF (uF (uF (uF (uF (uF (uF (uF (uF (uF (uF (uF (uF (uF (uF (uF (uF (uF (uF (uF (uF (uF (uF (uF (uF (uF fzX12 1 (rv y1)) 6 (rv y6)) 7 (rv y7)) 8 (rv y8)) 9 (rv y9)) 10 (rv y10)) 11 (rv y11)) 12 (rv y12)) 15 (rv y15)) 16 (rv y16)) 17 (rv y17)) 20 (rv y20)) 23 (rv y23)) 24 (rv y24)) 27 (iv (-1))) 28 (iv 9)) 30 (iv 20)) 31 (rv y31)) 33 (rv y33)) 34 (rv y34)) 35 (rv y35)) 36 (rv y36)) 37 (rv y37)) 40 (rv y40)) 41 (rv y41)) 42 (rv y42)) 43 (rv y43)) 44 (rv y44)) 45 (rv y45)) 47 (rv y47))), (y1, ar 160 (fun _ => 0)), (y6, ar 1700 (fun _ => 0)), (y7, ar 1700 (fun _ => 0)), (y8, ar 5 (fun _ => 0)), (y9, ar 5 (fun _ => 0)), (y10, ar 450 (fun _ => 0)), (y11, ar 450 (fun _ => 0)), (y12, ar 450 (fun _ => 0)), (y15, ar 5 (fun _ => 0)), (y16, ar 80 (fun _ => 0)), (y17, ar 30 (fun _ => 0)), (y20, ar 30 (fun _ => 0)), (y23, ar 6 (fun _ => 0)), (y24, ar 6 (fun _ => 0)), (y31, ar 360 (fun _ => 0)), (y33, ar 1206 (fun _ => 0)), (y34, ar 180 (fun _ => 0)), (y35, ar 180 (fun _ => 0)), (y36, ar 42 (fun _ => 0)), (y37, ar 6 (fun _ => 0)), (y40, ar 31 (fun _ => 0)), (y41, ar 31 (fun _ => 0)), (y42, ar 6 (fun _ => 0)), (y43, ar 20 (fun _ => 0)), (y44, ar 20 (fun _ => 0)), (y45, ar 20 (fun _ => 0)), (y47, ar 6 (fun _ => 0))]) : ∃ (b : Nat → Nat), b 0 = h0 ∧ ∀ G, tW G u = tW G (RW b w00 g00) := by
  obtain ⟨y1, y6, y7, y8, y9, y10, y11, y12, y15, y16, y17, y20, y23, y24, y31, y33, y34, y35, y36, y37, y40, y41, y42, y43, y44, y45, y47, rfl⟩ := hu
  refine ⟨fun k => match k with
    | 0 => h0
    | 1 => y1
    | 6 => y6
    | 7 => y7
    | 8 => y8
    | 9 => y9
    | 10 => y10
    | 11 => y11
    | 12 => y12
    | 15 => y15
    | 16 => y16
    | 17 => y17
    | 20 => y20
    | 23 => y23
    | 24 => y24
    | 31 => y31
    | 33 => y33
    | 34 => y34
    | 35 => y35
    | 36 => y36
    | 37 => y37
    | 40 => y40
    | 41 => y41
    | 42 => y42
    | 43 => y43
    | 44 => y44
    | 45 => y45
    | 47 => y47
    | _ => 0, rfl, fun G => ?_⟩
  refine tw_c (tE_o (n := 50) rfl (fzS (fzS (fzS (fzS (fzS (fzS (fzS (fzS (fzS (fzS (fzS (fzS (fzS (fzS (fzS (fzS (fzS (fzS (fzS (fzS (fzS (fzS (fzS (fzS (fzS (fzS (fzS (fzS (fzS (fzS (fzS (fzS (fzS (fzS (fzS (fzS (fzS (fzS (fzS (fzS (fzS (fzS (fzS (fzS (fzS (fzS (fzS (fzS (fzS (fzS fz0 rfl) rfl) rfl) rfl) rfl) rfl) rfl) rfl) rfl) rfl) rfl) rfl) rfl) rfl) rfl) rfl) rfl) rfl) rfl) rfl) rfl) rfl) rfl) rfl) rfl) rfl) rfl) rfl) rfl) rfl) rfl) rfl) rfl) rfl) rfl) rfl) rfl) rfl) rfl) rfl) rfl) rfl) rfl) rfl) rfl) rfl) rfl) rfl) rfl) rfl)) ?_
  refine tw_c rfl ?_
  refine tw_c rfl ?_
  refine tw_c rfl ?_
  refine tw_c rfl ?_
  refine tw_c rfl ?_
  refine tw_c rfl ?_
  refine tw_c rfl ?_
  refine tw_c rfl ?_
  refine tw_c rfl ?_
  refine tw_c rfl ?_
  refine tw_c rfl ?_
  refine tw_c rfl ?_
  refine tw_c rfl ?_
  refine tw_c rfl ?_
  refine tw_c rfl ?_
  refine tw_c rfl ?_
  refine tw_c rfl ?_
  refine tw_c rfl ?_
  refine tw_c rfl ?_
  refine tw_c rfl ?_
  refine tw_c rfl ?_
  refine tw_c rfl ?_
  refine tw_c rfl ?_
  refine tw_c rfl ?_
  refine tw_c rfl ?_
  refine tw_c rfl ?_
  refine tw_c rfl ?_
  rfl
theorem inv00 : Inv v00 g00 [] y00 w00 g00 := by
  refine ⟨⟨⟨by decide, by decide, fun j a0 a1 => ?_⟩, rfl, rfl⟩, ⟨⟨rfl, by decide, by decide⟩, fun i x hx => ?_, ⟨by decide, by decide⟩, rfl, rfl, fun i a0 a1 => ?_⟩, ⟨⟨by decide, by decide, by decide, by decide, by decide, by decide, fun p a0 a1 => ?_⟩, ⟨by decide, by decide⟩, rfl, rfl, rfl, rfl, rfl, fun p a0 a1 => ?_⟩, ⟨fun h => absurd h (by decide), fun p a0 a1 => ?_⟩, ⟨⟨by decide, by decide⟩, ⟨by decide, by decide⟩, by decide, by decide, Or.inl rfl, rfl, rfl, rfl, fun k a0 a1 => ?_, fun h => absurd h (by decide)⟩, ⟨⟨by decide, by decide⟩, rfl, fun k a0 a1 => ?_⟩, ⟨⟨by decide, by decide⟩, ⟨by decide, by decide⟩, fun x _ _ => (show (0 : Int) ≤ 0 ∧ (0 : Int) ≤ 1000000000 by decide), fun x _ _ => (show inR 0 from inR_0)⟩, ⟨fun x _ _ => (show (0 : Int) ≤ 0 ∧ (0 : Int) ≤ 9 by decide), Or.inl rfl, by decide, by decide, by decide, by decide⟩⟩
  · exact absurd (Int.lt_of_le_of_lt a0 a1) (by decide)
  · cases hx
  all_goals exact absurd (Int.lt_of_le_of_lt a0 a1) (by decide)
set_option maxRecDepth 100000 in
set_option maxHeartbeats 4000000 in
theorem law_start {p : Program} {l : Launch} {e : Env} {s : State} {m : MethodId} {below : List Frame} {meth : Method} {c : Code} {D : va_G} {G : GG} {A : Nat → Prop} {bs N : Nat} {xs : Nat → Int32} (X : Cx p s m #[Value.ref bs] meth c D G A code 7 ret RL) (hU : XU A s s.heap) (hlf : l.stackTraces = false) (hX : va_X bs N xs s s.heap) (hbl : bs < s.heap.size) (hA : ¬ A bs) (hAs : ∀ q, A q → s.heap.size ≤ q) (hN : N ≤ 3072) : LJ p l e s m bs below meth c D G A 0 0 0 (aL [rv bs]) [] [] := by
  refine S_new (ci := 10) (f0 := fzX11) X tyX11 iuX11 tyX11_ok (List.mem_filter.mpr ⟨List.mem_append_left _ (mT1 (List.mem_of_getElem? (i := 22) rfl)), by decide +kernel⟩) (List.mem_filter.mpr ⟨List.mem_append_left _ (mT1 (List.mem_of_getElem? (i := 23) rfl)), by decide +kernel⟩) (List.mem_filter.mpr ⟨List.mem_append_left _ (mT1 (List.mem_of_getElem? (i := 1) rfl)), by decide +kernel⟩) rfl fzX11_ok (nle rfl) (nle rfl) dL_law_0 (fun q1 => ?_)
  refine S_dup X dL_law_3 ?_
  refine S_callvA [] (wr := []) X (kX11_init l q1) (is := [0]) rfl rfl (by decide) (by decide) (run_I X lkL_15 (is := [0]) (avs := []) (rest := [rv q1]) rfl rfl (nle rfl) ⟨nle rfl, nle rfl⟩ ⟨nle rfl, nle rfl⟩ dL_law_4 (by decide) rfl) (fun u1 hp1 => ?_)
  obtain ⟨a, u9, hpm, ha, hw1⟩ := n11 hp1
  refine S_w (ws' := u1) (List.nil_append _) ?_
  refine S_perm (ws2 := u9) hpm ?_
  refine S_tw (hw1 G) ?_
  refine S_astore_n X dL_law_7 rfl (by decide) ?_
  refine S_new (ci := 11) (f0 := fzX12) X tyX12 iuX12 tyX12_ok (List.mem_filter.mpr ⟨List.mem_append_left _ (mT5 (List.mem_of_getElem? (i := 106) rfl)), by decide +kernel⟩) (List.mem_filter.mpr ⟨List.mem_append_left _ (mT5 (List.mem_of_getElem? (i := 107) rfl)), by decide +kernel⟩) (List.mem_filter.mpr ⟨List.mem_append_left _ (mT1 (List.mem_of_getElem? (i := 12) rfl)), by decide +kernel⟩) rfl fzX12_ok (nle rfl) (nle rfl) dL_law_8 (fun q2 => ?_)
  refine S_dup X dL_law_11 ?_
  refine S_callvA (List.range (CW a v00 g00 R00 [] y00).length) (wr := CW a v00 g00 R00 [] y00) X (kX12_init l q2) (is := [45]) rfl rg_L (rg_nd _) (fun i hi hm => by rw [List.mem_singleton.mp hm] at hi; exact Nat.lt_irrefl 45 (List.mem_range.mp hi)) (run_I X lkL_18 (is := [45]) (avs := []) (rest := [rv q2]) rfl rfl (nle rfl) ⟨nle rfl, nle rfl⟩ ⟨nle rfl, nle rfl⟩ dL_law_12 (by decide) rfl) (fun u2 hp2 => ?_)
  obtain ⟨b, hb, hw2⟩ := n12 hp2
  refine S_tw (tW_app rfl (hw2 G)) ?_
  refine S_astore_n X dL_law_15 rfl (by decide) ?_
  refine S_iconst X dL_law_16 ?_
  refine S_newl (N := 1) X (List.mem_filter.mpr ⟨List.mem_append_left _ (mT7 (List.mem_of_getElem? (i := 162) rfl)), by decide +kernel⟩) (nle rfl) (nle rfl) (nle rfl) dL_law_17 (fun o => ?_)
  refine S_perm (ws2 := CW a v00 g00 R00 [] y00 ++ ((o, al 1 (fun _ => 0)) :: RW b w00 g00)) ?_ ?_
  · rw [List.append_assoc]
    exact List.Perm.append_left _ List.perm_append_comm
  refine S_astore_n X dL_law_19 rfl (by decide) ?_
  refine S_iconst X dL_law_20 ?_
  refine S_istore X dL_law_21 (by decide) ?_
  refine law_hd (a := a) (b := b) (o := o) X hU hlf hX hbl hA hAs hN 512 0 rfl v00 g00 R00 [] y00 w00 g00 (fun _ => 0) _ _ _ inv00 rfl ?_ ?_ rfl rfl (nle rfl) (nle rfl)
  · show some (rv q1) = some (rv (a 19)); rw [ha]
  · show some (rv q2) = some (rv (b 0)); rw [hb]
