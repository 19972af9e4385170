/-! THE LAWS' CELLS -/
def LwS : Type := (Nat × Nat × Nat × Nat) × (Nat → AV) × (Nat × Nat) × (Int → Int) × List (List Int × List Int)
def LwY : Type := (Int → Int) × (Int → Int) × Int × Int
def LwS.o (x : LwS) : Nat := (show (Nat × Nat × Nat × Nat) × (Nat → AV) × (Nat × Nat) × (Int → Int) × List (List Int × List Int) from x).1.1
def LwS.c (x : LwS) : Nat := (show (Nat × Nat × Nat × Nat) × (Nat → AV) × (Nat × Nat) × (Int → Int) × List (List Int × List Int) from x).1.2.1
def LwS.s (x : LwS) : Nat := (show (Nat × Nat × Nat × Nat) × (Nat → AV) × (Nat × Nat) × (Int → Int) × List (List Int × List Int) from x).1.2.2.1
def LwS.k (x : LwS) : Nat := (show (Nat × Nat × Nat × Nat) × (Nat → AV) × (Nat × Nat) × (Int → Int) × List (List Int × List Int) from x).1.2.2.2
def LwS.f (x : LwS) : Nat → AV := (show (Nat × Nat × Nat × Nat) × (Nat → AV) × (Nat × Nat) × (Int → Int) × List (List Int × List Int) from x).2.1
def LwS.nc (x : LwS) : Nat := (show (Nat × Nat × Nat × Nat) × (Nat → AV) × (Nat × Nat) × (Int → Int) × List (List Int × List Int) from x).2.2.1.1
def LwS.nk (x : LwS) : Nat := (show (Nat × Nat × Nat × Nat) × (Nat → AV) × (Nat × Nat) × (Int → Int) × List (List Int × List Int) from x).2.2.1.2
def LwS.CC (x : LwS) : Int → Int := (show (Nat × Nat × Nat × Nat) × (Nat → AV) × (Nat × Nat) × (Int → Int) × List (List Int × List Int) from x).2.2.2.1
def LwS.cs (x : LwS) : List (List Int × List Int) := (show (Nat × Nat × Nat × Nat) × (Nat → AV) × (Nat × Nat) × (Int → Int) × List (List Int × List Int) from x).2.2.2.2
def LwY.S (y : LwY) : Int → Int := (show (Int → Int) × (Int → Int) × Int × Int from y).1
def LwY.K (y : LwY) : Int → Int := (show (Int → Int) × (Int → Int) × Int × Int from y).2.1
def LwY.tp (y : LwY) : Int := (show (Int → Int) × (Int → Int) × Int × Int from y).2.2.1
def LwY.kn (y : LwY) : Int := (show (Int → Int) × (Int → Int) × Int × Int from y).2.2.2
def lwS0 (o c s k : Nat) (f : Nat → AV) (nc nk : Nat) (CC : Int → Int) (cs : List (List Int × List Int)) : LwS := ((o, c, s, k), f, (nc, nk), CC, cs)
def lwY0 (S K : Int → Int) (tp kn : Int) : LwY := (S, K, tp, kn)
def lwC (x : LwS) (y : LwY) : EW := [(x.o, ob 1 (uF (uF x.f 3 (iv y.tp)) 4 (iv y.kn))), (x.c, ar x.nc x.CC), (x.s, ar x.nc y.S), (x.k, ar x.nk y.K)]
def lwT : List LwS → (Nat → LwY) → EW
  | [], _ => []
  | x :: r, y => lwC x (y 0) ++ lwT r (fun j => y (j + 1))
def lwSok (x : LwS) : Prop := (x.f 0 = rv x.c ∧ x.f 1 = rv x.s ∧ x.f 2 = rv x.k) ∧ (x.nc ≤ 160 ∧ (x.nc : Int) = ((flatLaw x.cs).length : Int)) ∧ (∀ (j : Nat) (u : Int), (flatLaw x.cs)[j]? = some u → x.CC (0 + j) = u) ∧ (∀ j, 0 ≤ j → j < (x.nc : Int) → -200 ≤ x.CC j ∧ x.CC j ≤ 9999) ∧ okLaw x.cs ∧ (x.nk = 1000 ∨ (x.nk = 0 ∧ noO (flatLaw x.cs)))
def lwYok (mt pl : Int) (x : LwS) (y : LwY) : Prop := (0 ≤ y.kn ∧ y.kn ≤ (x.nk : Int)) ∧ ∀ j, 0 ≤ j → j < y.kn → y.K j = dyI x.cs mt pl j
def okW (ds : List LwS) (y : Nat → LwY) (mt pl : Int) : Prop := ∀ i x, ds[i]? = some x → lwSok x ∧ lwYok mt pl x (y i)
def uN {α : Type} (y : Nat → α) (i : Nat) (v : α) : Nat → α := fun j => if j = i then v else y j
theorem uN_at {α : Type} {y : Nat → α} {i : Nat} {v : α} : uN y i v i = v := if_pos rfl
theorem uN_self {α : Type} {y : Nat → α} {i : Nat} : uN y i (y i) = y := by
  funext j
  unfold uN
  split
  · rename_i h; rw [h]
  · rfl
theorem lwT_key : ∀ (ds : List LwS) (y z : Nat → LwY), (lwT ds y).map (fun q => q.1) = (lwT ds z).map (fun q => q.1)
  | [], _, _ => rfl
  | x :: r, y, z => by
    show (lwC x (y 0) ++ lwT r _).map _ = (lwC x (z 0) ++ lwT r _).map _
    rw [List.map_append, List.map_append, lwT_key r _ (fun j => z (j + 1))]
    rfl
theorem lwT_at : ∀ (ds : List LwS) (y : Nat → LwY) (i : Nat) (x : LwS), ds[i]? = some x → ∃ rest : EW, ∀ v : LwY, (lwT ds (uN y i v)).Perm (lwC x v ++ rest)
  | [], _, _, _, h => by cases h
  | x :: r, y, 0, x0, h => by
    cases h
    exact ⟨lwT r (fun j => y (j + 1)), fun v => List.Perm.refl _⟩
  | x :: r, y, i + 1, x0, h => by
    obtain ⟨rest, hr⟩ := lwT_at r (fun j => y (j + 1)) i x0 h
    refine ⟨lwC x (y 0) ++ rest, fun v => ?_⟩
    have e : (fun j => uN y (i + 1) v (j + 1)) = uN (fun j => y (j + 1)) i v := by
      funext j
      unfold uN
      by_cases hj : j = i
      · rw [if_pos hj, if_pos (by omega)]
      · rw [if_neg hj, if_neg (by omega)]
    show (lwC x (uN y (i + 1) v 0) ++ lwT r (fun j => uN y (i + 1) v (j + 1))).Perm _
    rw [e, show uN y (i + 1) v 0 = y 0 from if_neg (by omega)]
    refine ((hr v).append_left _).trans ?_
    rw [← List.append_assoc, ← List.append_assoc]
    exact (List.perm_append_comm).append_right _
/-- a world with the law i in front of the others -/
theorem lw_front {ds : List LwS} {y : Nat → LwY} {i : Nat} {x : LwS} (h : ds[i]? = some x) : ∃ rest : EW, (∀ w : EW, (w ++ lwT ds y).Perm (w ++ lwC x (y i) ++ rest)) ∧ ∀ (w : EW) (v : LwY), (w ++ lwC x v ++ rest).Perm (w ++ lwT ds (uN y i v)) := by
  obtain ⟨rest, hr⟩ := lwT_at ds y i x h
  refine ⟨rest, fun w => ?_, fun w v => ?_⟩
  · have := hr (y i)
    rw [uN_self] at this
    rw [List.append_assoc]
    exact this.append_left w
  · rw [List.append_assoc]
    exact ((hr v).append_left w).symm
theorem okW.set {ds : List LwS} {y : Nat → LwY} {mt pl : Int} {i : Nat} {x : LwS} {v : LwY} (h : okW ds y mt pl) (hx : ds[i]? = some x) (hv : lwYok mt pl x v) : okW ds (uN y i v) mt pl := fun j z hz => by
  unfold uN
  split
  · rename_i e
    subst e
    rw [hx] at hz
    cases hz
    exact ⟨(h _ _ hx).1, hv⟩
  · exact h j z hz
def csA (ds : List LwS) (ho : Int) : List (List Int × List Int) := match ds[ho.toNat]? with
  | some x => x.cs
  | none => []
theorem csA_at {ds : List LwS} {ho : Int} {i : Nat} {x : LwS} (h : ds[i]? = some x) (e : ho.toNat = i) : csA ds ho = x.cs := by
  unfold csA
  rw [e, h]
/-- the field laws -/
def lwR (ds : List LwS) (j : Int) : Option Nat := if 0 ≤ j then (ds[j.toNat]?).map (fun x => x.o) else none
theorem lwR_at {ds : List LwS} {j : Int} (h0 : 0 ≤ j) (h1 : j < (ds.length : Int)) : ∃ x, ds[j.toNat]? = some x ∧ lwR ds j = some x.o := by
  have hl : j.toNat < ds.length := by omega
  refine ⟨ds[j.toNat], List.getElem?_eq_getElem hl, ?_⟩
  unfold lwR
  rw [if_pos h0, List.getElem?_eq_getElem hl]
  rfl
theorem lwR_no {ds : List LwS} {j : Int} (h : (ds.length : Int) ≤ j) : lwR ds j = none := by
  unfold lwR
  split
  · rw [List.getElem?_eq_none (by omega)]; rfl
  · rfl
section AN
variable {p : Program} {l : Launch} {e : Env} {R : Room} {s : State} {m : MethodId} {args : Array Value} {below : List Frame} {meth : Method} {c : Code} {H : Heap} {locs : List Loc} {Q : State → Prop} {D : va_G} {G : GG} {A : Nat → Prop} {cc : ByteArray} {nL cells slots pc : Nat} {rt : Option FieldType} {own : String} {L : Nat → Option AV} {st : List AV} {ws : EW}
theorem lv_anull {ls : Array Slot} {rest : List Value} (hexec : p.tables.exec = Jvm.exec) (hb : c.code = cc) (hdg : decode cc pc = .ok (.aconst_null, 1)) (k : W p l e R s m args below meth c H locs cells slots Q (F0 m (pc + 1) ls (.null :: rest))) : W p l e R s m args below meth c H locs cells slots Q (F0 m pc ls (rest)) := by
  intro T hT X
  obtain ⟨t, a, b⟩ := k T hT X
  refine ⟨t, ?_, b⟩
  jvm_step X.here [X.here.top, hexec, hb, hdg]
  exact a
theorem S_anull (X : Cx p s m args meth c D G A cc nL rt own) (hdg : decode cc pc = .ok (.aconst_null, 1)) (k : S_ p l e R s m args below meth c Q D G A nL cells slots (pc + 1) L (.inr none :: st) ws) : S_ p l e R s m args below meth c Q D G A nL cells slots pc L st ws :=
  fun H locs ls hP hD hS hl => lv_anull X.1 X.2.1 hdg (k H locs ls hP hD hS hl)
theorem S_astore_nN (X : Cx p s m args meth c D G A cc nL rt own) {k : Fin 4} {i : Nat} (hdg : decode cc pc = .ok (.astore_n k, 1)) (hi : (k : Nat) = i) (hn : i < nL) (kk : S_ p l e R s m args below meth c Q D G A nL cells slots (pc + 1) (uF L i (some nv)) st ws) : S_ p l e R s m args below meth c Q D G A nL cells slots pc L (nv :: st) ws :=
  fun H locs ls hP hD hS hl => lv_astore_nN X.1 X.2.1 hdg hi hl.has hn rfl (fun ls' hl' => kk H locs ls' hP hD hS (LH.st (v := nv) (fun j w hw => hl.lt hw) hl'))
end AN
