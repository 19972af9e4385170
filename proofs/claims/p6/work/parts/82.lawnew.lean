/-! A NEW LAW, AT THE END OF THE OTHERS -/
theorem uF_id2 {α : Type} {f : Nat → α} {k : Nat} {v : α} (h : f k = v) : uF f k v = f := by
  funext j
  unfold uF
  split
  · rename_i e; rw [e]; exact h.symm
  · rfl
theorem lwT_snoc : ∀ (ds : List LwS) (ys : Nat → LwY) (x : LwS) (v : LwY), lwT (ds ++ [x]) (uN ys ds.length v) = lwT ds ys ++ lwC x v
  | [], ys, x, v => by
    show lwC x (uN ys 0 v 0) ++ [] = [] ++ lwC x v
    rw [uN_at, List.append_nil, List.nil_append]
  | z :: r, ys, x, v => by
    show lwC z (uN ys (r.length + 1) v 0) ++ lwT (r ++ [x]) (fun j => uN ys (r.length + 1) v (j + 1)) = lwC z (ys 0) ++ lwT r (fun j => ys (j + 1)) ++ lwC x v
    have e : (fun j => uN ys (r.length + 1) v (j + 1)) = uN (fun j => ys (j + 1)) r.length v := by
      funext j
      unfold uN
      by_cases hj : j = r.length
      · rw [if_pos hj, if_pos (by omega)]
      · rw [if_neg hj, if_neg (by omega)]
    rw [e, lwT_snoc r (fun j => ys (j + 1)) x v, show uN ys (r.length + 1) v 0 = ys 0 from if_neg (by omega), List.append_assoc]
theorem lwR_snoc {ds : List LwS} {x : LwS} {i : Int} (hi : i = (ds.length : Int)) : uZ (lwR ds) i (some x.o) = lwR (ds ++ [x]) := by
  funext j
  unfold uZ lwR
  by_cases h : j = i
  · rw [if_pos h, if_pos (by omega), show j.toNat = ds.length by omega]
    simp
  · rw [if_neg h]
    by_cases h0 : 0 ≤ j
    · rw [if_pos h0, if_pos h0]
      by_cases h1 : j < i
      · rw [List.getElem?_append_left (by omega)]
      · rw [List.getElem?_eq_none (by omega), List.getElem?_eq_none (by rw [List.length_append, List.length_singleton]; omega)]
    · rw [if_neg h0, if_neg h0]
theorem okW.snoc {ds : List LwS} {ys : Nat → LwY} {mt pl : Int} {x : LwS} {v : LwY} (h : okW ds ys mt pl) (hx : lwSok x) (hv : v.kn = 0) : okW (ds ++ [x]) (uN ys ds.length v) mt pl := fun j z hz => by
  by_cases hj : j < ds.length
  · rw [List.getElem?_append_left hj] at hz
    rw [show uN ys ds.length v j = ys j from if_neg (by omega)]
    exact h j z hz
  · have hj2 : j = ds.length := by
      have := (List.getElem?_eq_some_iff.mp hz).1
      rw [List.length_append, List.length_singleton] at this
      omega
    subst hj2
    rw [List.getElem?_append_right (Nat.le_refl _), Nat.sub_self] at hz
    cases hz
    rw [uN_at]
    refine ⟨hx, ?_, ?_⟩
    · rw [hv]; omega
    · intro a a0 a1; rw [hv] at a1; omega
theorem csA_snoc {ds : List LwS} {x : LwS} {ho : Int} (h0 : 0 ≤ ho) (h1 : ho < (ds.length : Int)) : csA (ds ++ [x]) ho = csA ds ho := by
  unfold csA
  rw [List.getElem?_append_left (by omega)]
section AA
variable {p : Program} {l : Launch} {e : Env} {R : Room} {s : State} {m : MethodId} {args : Array Value} {below : List Frame} {meth : Method} {c : Code} {Q : State → Prop} {D : va_G} {G : GG} {A : Nat → Prop} {cc : ByteArray} {nL cells slots pc : Nat} {rt : Option FieldType} {own : String} {L : Nat → Option AV} {st : List AV} {ws : EW}
theorem S_aaq (X : Cx p s m args meth c D G A cc nL rt own) (q0 qk : Nat) {a n v : Nat} {g : Int → Option Nat} {fv : Nat → AV} {z : Int} (ha : ws[q0]? = some (a, aq n g)) (hv : ws[qk]? = some (v, ob 1 fv)) (h0 : 0 ≤ z) (h1 : z < n) (hn : n ≤ 2147483647) (hdg : decode cc pc = .ok (.aastore, 1)) (k : S_ p l e R s m args below meth c Q D G A nL cells slots (pc + 1) L st (ws.set q0 (a, aq n (uZ g z (some v))))) : S_ p l e R s m args below meth c Q D G A nL cells slots pc L (rv v :: iv z :: rv a :: st) ws := by
  intro H locs ls hP hD hS hl
  refine va_astq X.1 X.2.1 X.2.2.2.2.2.1 hP hD hS q0 1 qk 1 (tW_at ha) rfl (tW_at hv) rfl (i32_vp h0 h1 hn) hdg (fun H1 locs1 hP1 hD1 hS1 => ?_)
  have e1 : (fun j : Nat => uZ g z (some v) (j : Int)) = va_up (fun j : Nat => g (j : Int)) (i32 z).toNatClampNeg (some v) := by
    funext j
    unfold uZ va_up
    rw [i32_nat h0 ⟨by omega, by omega⟩]
    by_cases hj : (j : Int) = z
    · rw [if_pos hj, if_pos (by omega)]
    · rw [if_neg hj, if_neg (by omega)]
  have e2 : tW G (ws.set q0 (a, aq n (uZ g z (some v)))) = (tW G ws).set q0 (a, .inl (G.2.1, n, .inr (.inr (.inr (.inr (va_up (fun j => g (j : Int)) (i32 z).toNatClampNeg (some v))))))) := by
    rw [← e1]
    unfold tW
    rw [List.map_set]
    rfl
  exact k H1 locs1 ls (by rw [e2]; exact hP1) (by rw [e2]; exact hD1) hS1 hl
end AA
theorem lwSok_new {T C CC : Int → Int} {n : Int} {cs : List (List Int × List Int)} {o c s k nc nk : Nat} {f : Nat → AV} (hn : n ≤ 160) (h0 : 0 ≤ n) (h : pLawLS T n 161 0 [] = .inr cs) (hf : f 0 = rv c ∧ f 1 = rv s ∧ f 2 = rv k) (hnc : (nc : Int) = ((flatLaw cs).length : Int)) (hnc2 : nc ≤ 160) (hC : ∀ j, 0 ≤ j → j < (nc : Int) → CC j = wrL C 0 (flatLaw cs) j) (hr : ∀ t ∈ flatLaw cs, -200 ≤ t ∧ t ≤ 9999) (hk : nk = 1000 ∨ (nk = 0 ∧ ∀ j, 0 ≤ j → j < (nc : Int) → wrL C 0 (flatLaw cs) j ≠ -111)) : lwSok (lwS0 o c s k f nc nk CC cs) := by
  have hat : ∀ (j : Nat) (u : Int), (flatLaw cs)[j]? = some u → CC (0 + j) = u := fun j u hu => by
    have hj := (List.getElem?_eq_some_iff.mp hu).1
    rw [hC (0 + j) (by omega) (by omega)]
    exact wrL_in hu
  have hin : ∀ j, 0 ≤ j → j < (nc : Int) → ∃ u, u ∈ flatLaw cs ∧ CC j = u := fun j a0 a1 => by
    have hj : j.toNat < (flatLaw cs).length := by omega
    refine ⟨(flatLaw cs)[j.toNat], List.getElem_mem hj, ?_⟩
    have := hat j.toNat _ (List.getElem?_eq_getElem hj)
    rwa [show (0 : Int) + (j.toNat : Int) = j by omega] at this
  refine ⟨hf, ⟨hnc2, hnc⟩, hat, fun j a0 a1 => ?_, okLaw_read hn h0 h, ?_⟩
  · obtain ⟨u, hu, e⟩ := hin j a0 a1
    show -200 ≤ CC j ∧ CC j ≤ 9999
    rw [e]; exact hr u hu
  · rcases hk with hk | ⟨hk, hk2⟩
    · exact Or.inl hk
    · refine Or.inr ⟨hk, fun t ht e => ?_⟩
      have ht9 : t ∈ flatLaw cs := ht
      obtain ⟨j, hj, hjt⟩ := List.getElem_of_mem ht9
      refine hk2 (j : Int) (by omega) (by omega) ?_
      rw [← hC (j : Int) (by omega) (by omega)]
      have := hat j t (by rw [List.getElem?_eq_getElem hj, hjt])
      rw [show (0 : Int) + (j : Int) = j by omega] at this
      rw [this, e]
theorem perm_mid (a b c : EW) : (a ++ b ++ c).Perm (a ++ c ++ b) := by
  rw [List.append_assoc, List.append_assoc]
  exact (List.perm_append_comm).append_left a
theorem lw_add {w : EW} {ds : List LwS} {ys : Nat → LwY} {z c s k nc nk : Nat} {f : Nat → AV} {CC : Int → Int} {cs : List (List Int × List Int)} (h3 : f 3 = iv 0) (h4 : f 4 = iv 0) : (w ++ [(z, ob 1 f), (c, ar nc CC), (s, ar nc (fun _ => 0)), (k, ar nk (fun _ => 0))] ++ lwT ds ys).Perm (w ++ lwT (ds ++ [lwS0 z c s k f nc nk CC cs]) (uN ys ds.length (lwY0 (fun _ => 0) (fun _ => 0) 0 0))) := by
  have e : lwC (lwS0 z c s k f nc nk CC cs) (lwY0 (fun _ => 0) (fun _ => 0) 0 0) = [(z, ob 1 f), (c, ar nc CC), (s, ar nc (fun _ => 0)), (k, ar nk (fun _ => 0))] := by
    show [(z, ob 1 (uF (uF f 3 (iv 0)) 4 (iv 0))), (c, ar nc CC), (s, ar nc (fun _ => 0)), (k, ar nk (fun _ => 0))] = _
    rw [uF_id2 (f := f) h3, uF_id2 h4]
  rw [lwT_snoc, e, List.append_assoc]
  exact (List.perm_append_comm).append_left w
theorem law_cs {T : Int → Int} {n : Int} {ts : List Int} (hn : n ≤ 160) (h0 : 0 ≤ n) (h : lwRes T n = .inr ts) : ∃ cs, pLawLS T n 161 0 [] = .inr cs ∧ flatLaw cs = ts := by
  rw [lw_rel hn h0] at h
  cases e : pLawLS T n 161 0 [] with
  | inl f => rw [e] at h; cases h
  | inr cs =>
    rw [e] at h
    cases h
    exact ⟨cs, rfl, rfl⟩
theorem wr_rng {C : Int → Int} {ts : List Int} {nc : Nat} (hr : ∀ t ∈ ts, -200 ≤ t ∧ t ≤ 9999) (hn : (nc : Int) = 0 + (ts.length : Int)) : ∀ j, 0 ≤ j → j < (nc : Int) → inR (wrL C 0 ts j) := fun j a0 a1 => by
  have hj : j.toNat < ts.length := by omega
  have e := wrL_in (g := C) (k := 0) (List.getElem?_eq_getElem hj)
  rw [show (0 : Int) + (j.toNat : Int) = j by omega] at e
  have := hr _ (List.getElem_mem hj)
  rw [e]
  constructor <;> omega
theorem perm_blk (a b c t : EW) : (a ++ b ++ c ++ t).Perm (a ++ c ++ b ++ t) := (perm_mid a b c).append_right t
