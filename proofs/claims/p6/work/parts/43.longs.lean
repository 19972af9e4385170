/-! LONGS: numbers, contracts with longs among their arguments -/
def i64 (z : Int) : Int64 := Int64.ofInt z
abbrev inL (z : Int) : Prop := -9223372036854775808 ≤ z ∧ z ≤ 9223372036854775807
theorem i64_add (a b : Int) : i64 a + i64 b = i64 (a + b) := by simp [i64, Int64.ofInt_add]
theorem i64_sub (a b : Int) : i64 a - i64 b = i64 (a - b) := by simp [i64, Int64.ofInt_sub]
theorem i64_mul (a b : Int) : i64 a * i64 b = i64 (a * b) := by simp [i64, Int64.ofInt_mul]
theorem i64_toInt {z : Int} (h : inL z) : (i64 z).toInt = z := by
  have h1 := h.1
  have h2 := h.2
  unfold i64
  exact Int64.toInt_ofInt_of_le (by omega) (by omega)
theorem i64_inj {a b : Int} (ha : inL a) (hb : inL b) : i64 a = i64 b ↔ a = b := by
  constructor
  · intro h
    have h1 := congrArg Int64.toInt h
    rwa [i64_toInt ha, i64_toInt hb] at h1
  · intro h; rw [h]
theorem i64_lt {a b : Int} (ha : inL a) (hb : inL b) : i64 a < i64 b ↔ a < b := by
  rw [Int64.lt_iff_toInt_lt, i64_toInt ha, i64_toInt hb]
theorem i64_div {a b : Int} (ha : inL a) (hb : inL b) : i64 a / i64 b = i64 (a.tdiv b) := by
  have h : (i64 a / i64 b).toInt = (i64 (a.tdiv b)).toInt := by
    rw [Int64.toInt_div, i64_toInt ha, i64_toInt hb]
    unfold i64
    rw [Int64.toInt_ofInt]
  exact Int64.toInt_inj.mp h
theorem inR_L {z : Int} (h : inR z) : inL z := ⟨by have := h.1; omega, by have := h.2; omega⟩
theorem i64_32 {z : Int} (h : inR z) : (i32 z).toInt64 = i64 z := by
  apply Int64.toInt_inj.mp
  rw [Int32.toInt_toInt64, i32_toInt h, i64_toInt (inR_L h)]
theorem i64_to32 {z : Int} (h : inR z) : (i64 z).toInt32 = i32 z := by
  apply Int32.toInt_inj.mp
  rw [Int64.toInt_toInt32, i64_toInt (inR_L h), ← Int32.toInt_ofInt]
  rfl
def cm3 (a b : Int) : Int := if b < a then 1 else if a = b then 0 else -1
theorem lg_cm3 {a b : Int} (ha : inL a) (hb : inL b) : lg_cmp (i64 a) (i64 b) = i32 (cm3 a b) := by
  unfold lg_cmp cm3
  by_cases h1 : b < a
  · rw [if_pos (show i64 a > i64 b from (i64_lt hb ha).mpr h1), if_pos h1]; rfl
  · rw [if_neg (show ¬ i64 a > i64 b from fun h => h1 ((i64_lt hb ha).mp h)), if_neg h1]
    by_cases h2 : a = b
    · rw [if_pos ((i64_inj ha hb).mpr h2), if_pos h2]; rfl
    · rw [if_neg (fun h => h2 ((i64_inj ha hb).mp h)), if_neg h2]; rfl
theorem cm3_r (a b : Int) : inR (cm3 a b) := by unfold cm3; (repeat' split) <;> constructor <;> decide
theorem cm3_0 {a b : Int} (h : i32 (cm3 a b) = 0) : a = b := by
  have h2 := (i32_inj (cm3_r a b) inR_0).mp (h.trans i32_0)
  unfold cm3 at h2
  (repeat' split at h2) <;> omega
theorem cm3_n {a b : Int} (h : ¬ i32 (cm3 a b) = 0) : ¬ a = b := by
  intro e
  apply h
  rw [e]
  unfold cm3
  rw [if_neg (by omega), if_pos rfl]
  rfl
theorem cm3_ge {a b : Int} (h : 0 ≤ i32 (cm3 a b)) : b ≤ a := by
  have h2 := (i32_le inR_0 (cm3_r a b)).mp (by rw [← i32_0]; exact h)
  unfold cm3 at h2
  (repeat' split at h2) <;> omega
theorem cm3_lt {a b : Int} (h : ¬ 0 ≤ i32 (cm3 a b)) : a < b := by
  have h2 : ¬ 0 ≤ cm3 a b := fun q => h (by rw [i32_0]; exact (i32_le inR_0 (cm3_r a b)).mpr q)
  unfold cm3 at h2
  (repeat' split at h2) <;> omega
theorem cm3_le {a b : Int} (h : i32 (cm3 a b) ≤ 0) : a ≤ b := by
  have h2 := (i32_le (cm3_r a b) inR_0).mp (by rw [← i32_0]; exact h)
  unfold cm3 at h2
  (repeat' split at h2) <;> omega
theorem cm3_gt {a b : Int} (h : ¬ i32 (cm3 a b) ≤ 0) : b < a := by
  have h2 : ¬ cm3 a b ≤ 0 := fun q => h (by rw [i32_0]; exact (i32_le (cm3_r a b) inR_0).mpr q)
  unfold cm3 at h2
  (repeat' split at h2) <;> omega
theorem lmin_64 {a b : Int} (ha : inL a) (hb : inL b) : (if i64 b < i64 a then i64 b else i64 a) = i64 (min a b) := by
  by_cases q : b < a
  · rw [if_pos ((i64_lt hb ha).mpr q), show min a b = b by omega]
  · rw [if_neg (fun h => q ((i64_lt hb ha).mp h)), show min a b = a by omega]
theorem lmax_64 {a b : Int} (ha : inL a) (hb : inL b) : (if i64 b < i64 a then i64 a else i64 b) = i64 (max a b) := by
  by_cases q : b < a
  · rw [if_pos ((i64_lt hb ha).mpr q), show max a b = a by omega]
  · rw [if_neg (fun h => q ((i64_lt hb ha).mp h)), show max a b = b by omega]
def PcL (D : va_G) (G : GG) (vals : List Value) (sz : Nat) : Array Value → State → Prop := va_Pc vals (fun U => U.heap.size = sz ∧ va_P D vwCl (tW G []) U.heap ∧ va_K D vwCl (tyG G) U ∧ va_D (fun _ => True) (tW G []) ∧ Ev (va_A (tW G []) sz) U U.heap)
def AMl (l : Launch) (y : MethodName) (b : ByteArray) (n : Nat) (ret : FieldType) (d : Nat) (vals : List Value) (Post : Int → EW → Prop) : Prop :=
  ∀ (D : va_G) (G : GG) (sz : Nat), Met l y (.code y b n (some ret) :: uw) (rmD d 0 0) (PcL D G vals sz) (QcI D G (va_A (tW G []) sz) Post) 0 0 (va_A (tW G []) sz)
section SL
variable {l : Launch} {y : MethodName} {b : ByteArray} {n d : Nat} {vals : List Value}
theorem AMl.of {ret : FieldType} {Post : Int → EW → Prop} (hy : plainName y.cls = true) (hn : (lg_sl vals).length ≤ n)
    (body : ∀ (D : va_G) (G : GG) (A : Nat → Prop) (p : Program) (e : Env) (s : State) (m : MethodId) (args : Array Value) (below : List Frame) (meth : Method) (c : Code), Cx p s m args meth c D G A b n (some ret) y.cls → ∀ (H : Heap) (locs : List Loc) (ls : Array Slot), va_P D vwCl (tW G []) H → va_D A (tW G []) → va_S A s.heap H locs → lv_has ls n (lv_args 0 vals) →
      W p l e (rmD d 0 0) s m args below meth c H locs 0 0 (MQ below (QcI D G A Post) args s 0 0 A) (F0 m 0 ls [])) : AMl l y b n ret d vals Post := by
  intro D G sz
  refine Met.ofW (cc := b) (maxL := n) (ret := some ret) hy rfl ?_
  intro p e s m args below meth c s₁ B hml hv
  obtain ⟨rfl, hsz, hP, hK, hD0, hE⟩ := hv
  have hts := atoms_spec (ws := Cond.code y b n (some ret) :: uw) B.pre
  have hown : s.vm.findClass y.cls = some m.cls := findClass_of_methodNamed B.named
  subst hsz
  have X : Cx p s m (vals.toArray) meth c D G (va_A (tW G []) s.heap.size) b n (some ret) y.cls := ⟨B.exec, B.bytes, hml, hown, fun w h => hts w (List.mem_cons_of_mem _ h), hK, fun q h => Or.inr h, hE, B.returns, B.notSynchronized⟩
  rw [lg_entry_eq]
  exact body D G _ p e s m _ below meth c X s.heap [] _ hP hD0.self va_S.rf (lv_entry vals hn)
end SL
section SLC
variable {p : Program} {l : Launch} {e : Env} {R : Room} {s : State} {m : MethodId} {args : Array Value} {below : List Frame} {meth : Method} {c : Code} {Q : State → Prop} {D : va_G} {G : GG} {A : Nat → Prop} {cc : ByteArray} {nL cells slots pc : Nat} {rt : Option FieldType} {own : String} {L : Nat → Option AV} {st : List AV} {ws : EW} {H : Heap} {locs : List Loc} {ls : Array Slot}
theorem pcL_blind {sz : Nat} {vals : List Value} : FrameBlind (PcL D G vals sz) := by
  intro a U g mk q
  obtain ⟨q0, q1, qP, qK, qD, qE⟩ := q
  exact ⟨q0, q1, qP, va_K.moved (u := U) (U := U.calling g mk a) (Vm.Alike.refl U.vm) qK, qD, Ev.same qE rfl⟩
theorem pcL_ok (X : Cx p s m args meth c D G A cc nL rt own) {vals : List Value} (hP : va_P D vwCl (tW G ws) H) (hD : va_D A (tW G ws)) (hS : va_S A s.heap H locs) (U : State) (hU : U.heap = H) (hW : s.WarmedH U.vm) : PcL D G vals H.size vals.toArray U := by
  have h := pcA_ok (av := []) (wc := []) (is := []) X hP hD hS rfl rfl U hU hW
  exact ⟨rfl, h.2⟩
/-- a static method of the class called with longs: nothing changes but the stack -/
theorem W_callL (X : Cx p s m args meth c D G A cc nL rt own) {idx k n d : Nat} {y : MethodName} {b : ByteArray} {ret : FieldType} {vals rest : List Value} {Post : Int → EW → Prop} (K : LkS own idx y b n (some ret) k) (hM : AMl l y b n ret d vals Post) (hk : vals.length = k) {sk : List Value} (hst : sk = vals.reverse ++ rest) (h8 : (rest.map fun v => v.category).sum ≤ 8) (hR : d + 1 ≤ R.frames ∧ 8 + (n + 11) + 40 * d ≤ R.locals) (hcs : cells + 0 ≤ R.cells ∧ slots + 0 ≤ R.slots) (hdg : decode cc pc = .ok (.invokestatic idx, 3)) (hu : ∀ z u, Post z u → u = [])
    (hP : va_P D vwCl (tW G ws) H) (hD : va_D A (tW G ws)) (hS : va_S A s.heap H locs) (hls : ls.size = nL)
    (kk : ∀ (z : Int) (H1 : Heap) (locs1 : List Loc), Post z [] → va_P D vwCl (tW G ws) H1 → va_D A (tW G ws) → va_S A s.heap H1 locs1 → W p l e R s m args below meth c H1 locs1 cells slots Q (F0 m (pc + 3) ls (.int (i32 z) :: rest))) : W p l e R s m args below meth c H locs cells slots Q (F0 m pc ls sk) := by
  have hF := va_free (wc := tW G []) hD hS X.2.2.2.2.2.2.1 [] rfl
  obtain ⟨⟨k1, k2, k3, k5⟩, k6⟩ := K
  refine va_calli (va_runS (n := k) (cx_fix X) (hM D G H.size) (va_cwS k X.2.2.2.2.1 (uw_goods (fun w hw => by
        rcases List.mem_append.mp hw with h | h
        · simp only [List.mem_cons, List.not_mem_nil, or_false] at h
          rcases h with rfl | rfl | rfl <;> assumption
        · exact (uw_cons k5 w h).1)) rfl rfl rfl k6 hR) ⟨pcL_blind, fun U hU hW => pcL_ok X hP hD hS U hU hW⟩ rfl hk hls hst (by show 2 * 0 + _ ≤ 8; omega) hdg hcs) hS (fun q _ h => hF q h) hF (fun r u t H1 locs1 ht hvm hw hB hz1 hk1 hS1 => ?_)
  obtain ⟨z, rfl, hp⟩ := hw
  obtain ⟨hP1, hK1, hD1⟩ := hB
  have hu0 := hu z u hp
  subst hu0
  rw [ht] at hP1
  obtain ⟨hP2, hD2⟩ := va_putC (is := []) (wc := []) (u := []) hP hD rfl rfl hk1 hP1
  have e1 : putC ws [] [] = ws := List.append_nil ws
  rw [e1] at hP2 hD2
  exact kk z H1 locs1 hp hP2 hD2 hS1
theorem LH.none {ls : Array Slot} {nL : Nat} {lv : List (Nat × Value)} (h : lv_has ls nL lv) : LH ls nL (fun _ => none) := ⟨h.1, h.2.1, fun i v h => by cases h⟩
theorem W_minL (X : Cx p s m args meth c D G A cc nL rt own) {idx k : Nat} {y : MethodName} {b : ByteArray} (K : LkS own idx y b 4 (some .long) k) (hy : y = Lib.MathLoose.min_long.x) (hb : b = Lib.MathLoose.min_long.code) {x z : Int} {rest : List Value} (hx : inL x) (hz : inL z) (hls : ls.size = nL) (h1 : 1 ≤ R.frames) (h2 : (rest.map fun v => v.category).sum + 15 ≤ R.locals) (h3 : cells ≤ R.cells) (h4 : slots ≤ R.slots) (hdg : decode cc pc = .ok (.invokestatic idx, 3)) (kk : W p l e R s m args below meth c H locs cells slots Q (F0 m (pc + 3) ls (.long (i64 (min x z)) :: rest))) : W p l e R s m args below meth c H locs cells slots Q (F0 m pc ls (.long (i64 z) :: .long (i64 x) :: rest)) := by
  obtain ⟨⟨k1, k2, k3, k4⟩, -⟩ := K
  subst hy; subst hb
  have hts := X.2.2.2.2.1
  refine va_mmin_long X.1 X.2.1 (by rw [X.2.2.1]; exact hls.symm) X.2.2.2.1 (hts _ k1) (hts _ k2) (hts _ k3) (hts _ k4) h1 h2 h3 h4 hdg ?_
  rw [lmin_64 hx hz]
  exact kk
theorem W_maxL (X : Cx p s m args meth c D G A cc nL rt own) {idx k : Nat} {y : MethodName} {b : ByteArray} (K : LkS own idx y b 4 (some .long) k) (hy : y = Lib.MathLoose.max_long.x) (hb : b = Lib.MathLoose.max_long.code) {x z : Int} {rest : List Value} (hx : inL x) (hz : inL z) (hls : ls.size = nL) (h1 : 1 ≤ R.frames) (h2 : (rest.map fun v => v.category).sum + 15 ≤ R.locals) (h3 : cells ≤ R.cells) (h4 : slots ≤ R.slots) (hdg : decode cc pc = .ok (.invokestatic idx, 3)) (kk : W p l e R s m args below meth c H locs cells slots Q (F0 m (pc + 3) ls (.long (i64 (max x z)) :: rest))) : W p l e R s m args below meth c H locs cells slots Q (F0 m pc ls (.long (i64 z) :: .long (i64 x) :: rest)) := by
  obtain ⟨⟨k1, k2, k3, k4⟩, -⟩ := K
  subst hy; subst hb
  have hts := X.2.2.2.2.1
  refine va_mmax_long X.1 X.2.1 (by rw [X.2.2.1]; exact hls.symm) X.2.2.2.1 (hts _ k1) (hts _ k2) (hts _ k3) (hts _ k4) h1 h2 h3 h4 hdg ?_
  rw [lmax_64 hx hz]
  exact kk
end SLC
theorem bnd_mm (z : Int) : max (-1000000) (min 1000000 z) = bnd z := rfl
set_option maxHeartbeats 4000000 in
set_option maxRecDepth 100000 in
theorem kX12_bounded (l : Launch) (z : Int) (hz : inL z) : AMl l yX12_bounded cX12_bounded 2 .int 1 [.long (i64 z)] (fun r u => r = bnd z ∧ u = []) := by
  refine AMl.of rfl (nle rfl) ?_
  intro D G A p e s m args below meth c X H locs ls hP hD hS hl
  refine lv_ldc2 (v := i64 (-1000000)) X.1 X.2.1 X.2.2.2.1 (X.2.2.2.2.1 _ (by rw [show i64 (-1000000) = (-1000000 : Int64) from by decide]; exact m1489)) dX12_bounded_0 ?_
  refine lv_ldc2 (v := i64 1000000) X.1 X.2.1 X.2.2.2.1 (X.2.2.2.2.1 _ (by rw [show i64 1000000 = (1000000 : Int64) from by decide]; exact m1490)) dX12_bounded_3 ?_
  refine lv_lload_n X.1 X.2.1 dX12_bounded_6 rfl (lv_at hl 0 rfl) ?_
  refine W_minL X lkX12_195 rfl rfl (by decide) hz hl.1 (nle rfl) (by show 2 + 15 ≤ 40 * 1; omega) (nle rfl) (nle rfl) dX12_bounded_7 ?_
  refine W_maxL X lkX12_201 rfl rfl (by decide) ⟨by omega, by omega⟩ hl.1 (nle rfl) (by show 0 + 15 ≤ 40 * 1; omega) (nle rfl) (nle rfl) dX12_bounded_10 ?_
  rw [bnd_mm]
  have hb := bnd_in z
  unfold inB at hb
  refine lv_l2i (v := i32 (bnd z)) X.1 X.2.1 dX12_bounded_13 (i64_to32 ⟨by omega, by omega⟩) ?_
  exact S_iret (L := fun _ => none) (ws := []) X (nle rfl) (nle rfl) dX12_bounded_14 ⟨rfl, rfl⟩ H locs ls hP hD hS (LH.none hl)
