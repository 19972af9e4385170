section WR
variable {p : Program} {l : Launch} {e : Env} {R : Room} {s : State} {m : MethodId} {args : Array Value} {below : List Frame} {meth : Method} {c : Code} {Q : State → Prop} {D : va_G} {G : GG} {A : Nat → Prop} {cc : ByteArray} {nL cells slots pc : Nat} {rt : Option FieldType} {own : String} {L : Nat → Option AV} {st : List AV} {ws : EW} {H : Heap} {locs : List Loc} {ls : Array Slot} {rest : List Value}
theorem W_get (X : Cx p s m args meth c D G A cc nL rt own) {index ci k : Nat} (F : FG own index ci k) (q0 : Nat) {a : Nat} {f : Nat → AV} {v : AV} (he : ws[q0]? = some (a, ob ci f)) (hv : f k = v) (hdg : decode cc pc = .ok (.getfield index, 3)) (hP : va_P D vwCl (tW G ws) H) (kk : W p l e R s m args below meth c H locs cells slots Q (F0 m (pc + 3) ls (tV v :: rest))) : W p l e R s m args below meth c H locs cells slots Q (F0 m pc ls (.ref a :: rest)) := by
  obtain ⟨C, T, N, ref, hc, hin, hk, hlk, hsame⟩ := F
  have hc2 := hc
  have hfs : ((List.range (nF ci)).map (fun k => tV (f k)))[k]? = some (tV v) := by rw [nF_of hc, ← hv]; exact tF_at hk
  exact va_get X.1 X.2.1 X.2.2.2.2.1 hin X.2.2.2.1 X.2.2.2.2.2.1 hP q0 (tW_at he) hc2 k hk (X.2.2.2.2.1 _ hlk) (hsame args s X.2.2.2.2.1) hfs hdg kk
theorem W_iald (X : Cx p s m args meth c D G A cc nL rt own) (q0 : Nat) {a n : Nat} {g : Int → Int} {z : Int} (ha : ws[q0]? = some (a, ar n g)) (h0 : 0 ≤ z) (h1 : z < n) (hn : n ≤ 2147483647) (hdg : decode cc pc = .ok (.iaload, 1)) (hP : va_P D vwCl (tW G ws) H) (kk : W p l e R s m args below meth c H locs cells slots Q (F0 m (pc + 1) ls (.int (i32 (g z)) :: rest))) : W p l e R s m args below meth c H locs cells slots Q (F0 m pc ls (.int (i32 z) :: .ref a :: rest)) := by
  refine va_iald X.1 X.2.1 X.2.2.2.2.2.1 hP q0 0 (tW_at ha) rfl (i32_vp h0 h1 hn) hdg ?_
  have e1 : i32 (g (((i32 z).toNatClampNeg : Nat) : Int)) = i32 (g z) := by
    rw [i32_nat h0 ⟨by omega, by omega⟩, Int.toNat_of_nonneg h0]
  show W p l e R s m args below meth c H locs cells slots Q (F0 m (pc + 1) ls (Value.int (i32 (g (((i32 z).toNatClampNeg : Nat) : Int))) :: _))
  rw [e1]
  exact kk
/-- two numbers of the stack taken as longs, and worked -/
theorem S_wk (X : Cx p s m args meth c D G A cX12_workOut 6 rt RX12) (qo qs : Nat) {o9 t9 : Nat} {f : Nat → AV} {g : Int → Int} {a k tp : Int} {rs : List AV} (hL0 : L 0 = some (rv o9)) (hL4 : L 4 = some (iv tp)) (ho : ws[qo]? = some (o9, ob 11 f)) (hf : f 16 = rv t9) (hs : ws[qs]? = some (t9, ar 80 g)) (htp : 0 ≤ tp ∧ tp < 80) (ha : inR a) (hg : inR (g tp)) (hk : k = 2 ∨ k = 3 ∨ k = 4 ∨ k = 5 ∨ k = 6 ∨ k = 7 ∨ k = 8 ∨ k = 10 ∨ k = 11) (h8 : rs.length ≤ 8) (hR : 3 ≤ R.frames ∧ 104 ≤ R.locals) (hcs : cells ≤ R.cells ∧ slots ≤ R.slots)
    (kk : S_ p l e R s m args below meth c Q D G A 6 cells slots 164 L (iv (wk2 k a (g tp)) :: rs) ws) : S_ p l e R s m args below meth c Q D G A 6 cells slots 152 L (iv a :: iv k :: rs) ws := by
  intro H locs ls hP hD hS hl
  refine lv_i2l (v := i64 a) X.1 X.2.1 dX12_workOut_152 (i64_32 ha) ?_
  refine lv_aload_n X.1 X.2.1 dX12_workOut_153 rfl (hl.2.2 _ _ hL0) ?_
  refine W_get X fgX12_37_11 qo ho hf dX12_workOut_154 hP ?_
  refine lv_iload X.1 X.2.1 dX12_workOut_157 (hl.2.2 _ _ hL4) ?_
  refine W_iald X qs hs htp.1 (by omega) (nle rfl) dX12_workOut_159 hP ?_
  refine lv_i2l (v := i64 (g tp)) X.1 X.2.1 dX12_workOut_160 (i64_32 hg) ?_
  refine W_callL (vals := [.int (i32 k), .long (i64 a), .long (i64 (g tp))]) (rest := rs.map tV) X lkX12_208 (kX12_worked l k a (g tp) hk ha hg) rfl rfl (by rw [catR]; exact h8) ⟨hR.1, hR.2⟩ hcs dX12_workOut_161 (fun z u h => h.2) hP hD hS hl.1 (fun z H1 locs1 hz hP1 hD1 hS1 => ?_)
  obtain ⟨rfl, -⟩ := hz
  exact kk H1 locs1 ls hP1 hD1 hS1 hl
end WR
