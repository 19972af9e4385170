/-! System.arraycopy between rows of numbers -/
def cpZ (f g : Int → Int) (sp dp n : Int) : Int → Int := fun k => if dp ≤ k ∧ k < dp + n then f (sp + (k - dp)) else g k
section CP
variable {p : Program} {l : Launch} {e : Env} {R : Room} {s : State} {m : MethodId} {args : Array Value} {below : List Frame} {meth : Method} {c : Code} {Q : State → Prop} {D : va_G} {G : GG} {A : Nat → Prop} {cc : ByteArray} {nL cells slots pc : Nat} {rt : Option FieldType} {own : String} {L : Nat → Option AV} {st : List AV} {ws : EW}
theorem S_copy (X : Cx p s m args meth c D G A cc nL rt own) {idx : Nat} (k1 : Cond.methodLink own idx arraycopyName ∈ uw) (k2 : Cond.native arraycopyName ∈ uw) (k3 : Cond.static arraycopyName ∈ uw) (k4 : Cond.initialized "java/lang/System" ∈ uw) (q0 q1 : Nat) {a0 a1 n0 n1 : Nat} {f g : Int → Int} {sp dp n : Int} (ha0 : ws[q0]? = some (a0, ar n0 f)) (ha1 : ws[q1]? = some (a1, ar n1 g)) (hsp : 0 ≤ sp) (hdp : 0 ≤ dp) (hn : 0 ≤ n) (h4 : sp + n ≤ n0) (h5 : dp + n ≤ n1) (hb0 : n0 ≤ 2147483647) (hb1 : n1 ≤ 2147483647) (hf : 1 ≤ R.frames) (hl2 : st.length + (nativeFrameWords "java/lang/System" "arraycopy" 5 + 11) ≤ R.locals) (hdg : decode cc pc = .ok (.invokestatic idx, 3))
    (kk : S_ p l e R s m args below meth c Q D G A nL cells slots (pc + 3) L st (ws.set q1 (a1, ar n1 (cpZ f g sp dp n)))) : S_ p l e R s m args below meth c Q D G A nL cells slots pc L (iv n :: iv dp :: rv a1 :: iv sp :: rv a0 :: st) ws := by
  intro H locs ls hP hD hS hl
  have hts := X.2.2.2.2.1
  have rsp : inR sp := ⟨by omega, by omega⟩
  have rdp : inR dp := ⟨by omega, by omega⟩
  have rn : inR n := ⟨by omega, by omega⟩
  have neg : ∀ z : Int, 0 ≤ z → inR z → ¬ i32 z < 0 := fun z h0 hr h => by
    rw [i32_0, i32_lt hr inR_0] at h
    omega
  refine va_copyi X.1 X.2.1 (by rw [X.2.2.1]; exact hl.1.symm) X.2.2.2.1 (hts _ k1) (hts _ k2) (hts _ k3) (hts _ k4) X.2.2.2.2.2.1 hP hD hS q0 q1 0 0 (tW_at ha0) (tW_at ha1) rfl rfl rfl (neg sp hsp rsp) (neg dp hdp rdp) (neg n hn rn) (by rw [i32_nat hsp rsp, i32_nat hn rn]; omega) (by rw [i32_nat hdp rdp, i32_nat hn rn]; omega) (fun i hi => rfl) hf (by rw [catR]; exact hl2) hdg (fun H1 locs1 hP1 hD1 hS1 => ?_)
  have e1 : (tW G ws).set q1 (a1, .inl (G.1, n1, .inl (va_cpy (fun j : Nat => i32 (f (j : Int))) (fun j : Nat => i32 (g (j : Int))) (i32 sp).toNatClampNeg (i32 dp).toNatClampNeg (i32 n).toNatClampNeg))) = tW G (ws.set q1 (a1, ar n1 (cpZ f g sp dp n))) := by
    rw [i32_nat hsp rsp, i32_nat hdp rdp, i32_nat hn rn]
    have e2 : va_cpy (fun j : Nat => i32 (f (j : Int))) (fun j : Nat => i32 (g (j : Int))) sp.toNat dp.toNat n.toNat = (fun j : Nat => i32 (cpZ f g sp dp n (j : Int))) := by
      funext j
      unfold va_cpy cpZ
      by_cases h : dp ≤ (j : Int) ∧ (j : Int) < dp + n
      · rw [if_pos h, if_pos (by omega)]
        have e3 : ((sp.toNat + (j - dp.toNat) : Nat) : Int) = sp + ((j : Int) - dp) := by omega
        dsimp only
        rw [e3]
      · rw [if_neg h, if_neg (by omega)]
    rw [e2]
    exact tW_set (x := ar n1 (cpZ f g sp dp n))
  rw [e1] at hP1 hD1
  exact kk H1 locs1 ls hP1 hD1 hS1 hl
end CP
theorem cpZ_in {f g : Int → Int} {n k : Int} (h : 0 ≤ k ∧ k < n) : cpZ f g 0 0 n k = f k := by
  unfold cpZ
  rw [if_pos (by omega)]
  congr 1
  omega
theorem cpZ_at {f g : Int → Int} {sp dp n k : Int} (h : dp ≤ k ∧ k < dp + n) : cpZ f g sp dp n k = f (sp + (k - dp)) := by unfold cpZ; rw [if_pos h]
theorem cpZ_out {f g : Int → Int} {sp dp n k : Int} (h : ¬ (dp ≤ k ∧ k < dp + n)) : cpZ f g sp dp n k = g k := by unfold cpZ; rw [if_neg h]
