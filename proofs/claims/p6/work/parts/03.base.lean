/-! THE MACHINE SEEN FROM THE NUMBERS: ints are whole numbers (i32), an object's fields and an array's places are functions, locals too. -/
abbrev AV : Type := Int ⊕ Option Nat
abbrev EA : Type := (Int → Int) ⊕ ((Int → Option Nat) ⊕ (Nat → Int64))
abbrev EE : Type := (Nat × EA) ⊕ (Nat × (Nat → AV))
abbrev EW : Type := List (Nat × EE)
abbrev GG : Type := ClassId × ClassId × ClassId
def i32 (z : Int) : Int32 := Int32.ofInt z
def tV (v : AV) : Value := match v with
  | .inl z => .int (i32 z)
  | .inr r => va_rf r
abbrev iv (z : Int) : AV := .inl z
abbrev rv (a : Nat) : AV := .inr (some a)
abbrev nv : AV := .inr none
abbrev ar (n : Nat) (g : Int → Int) : EE := .inl (n, .inl g)
abbrev aq (n : Nat) (g : Int → Option Nat) : EE := .inl (n, .inr (.inl g))
abbrev al (n : Nat) (g : Nat → Int64) : EE := .inl (n, .inr (.inr g))
abbrev ob (ci : Nat) (f : Nat → AV) : EE := .inr (ci, f)
def nF (ci : Nat) : Nat := match vwCl[ci]? with
  | some r => r.2.2
  | none => 0
def tE (G : GG) (x : EE) : va_E := match x with
  | .inl (n, .inl g) => .inl (G.1, n, .inl (fun j => i32 (g (j : Int))))
  | .inl (n, .inr (.inl g)) => .inl (G.2.1, n, .inr (.inr (.inr (.inr (fun j => g (j : Int))))))
  | .inl (n, .inr (.inr g)) => .inl (G.2.2, n, .inr (.inl g))
  | .inr (ci, f) => .inr (ci, (List.range (nF ci)).map (fun k => tV (f k)))
def tW (G : GG) (ws : EW) : va_W := ws.map (fun q => (q.1, tE G q.2))
def tyG (G : GG) : List (ClassId × FieldType) := [(G.1, .int), (G.2.1, .object "BorrowedBeat$Law"), (G.2.2, .long)]
/-- a function with one place changed -/
def uF {α : Type} (f : Nat → α) (k : Nat) (v : α) : Nat → α := fun j => if j = k then v else f j
def uZ {α : Type} (f : Int → α) (k : Int) (v : α) : Int → α := fun j => if j = k then v else f j
def LH (ls : Array Slot) (nL : Nat) (L : Nat → Option AV) : Prop := ls.size = nL ∧ lv_wf ls ∧ ∀ (i : Nat) (v : AV), L i = some v → ls[i]? = some (.val (tV v))
abbrev inR (z : Int) : Prop := -2147483648 ≤ z ∧ z ≤ 2147483647
-- ints
theorem i32_add (a b : Int) : i32 a + i32 b = i32 (a + b) := by simp [i32, Int32.ofInt_add]
theorem i32_sub (a b : Int) : i32 a - i32 b = i32 (a - b) := by simp [i32, Int32.ofInt_sub]
theorem i32_mul (a b : Int) : i32 a * i32 b = i32 (a * b) := by simp [i32, Int32.ofInt_mul]
theorem i32_neg (a : Int) : - i32 a = i32 (-a) := by simp [i32, Int32.ofInt_neg]
theorem i32_toInt {z : Int} (h : inR z) : (i32 z).toInt = z := by
  have h1 := h.1
  have h2 := h.2
  unfold i32
  exact Int32.toInt_ofInt_of_le (by omega) (by omega)
theorem i32_of (x : Int32) : i32 x.toInt = x := Int32.ofInt_toInt x
theorem i32_inj {a b : Int} (ha : inR a) (hb : inR b) : i32 a = i32 b ↔ a = b := by
  constructor
  · intro h
    have h1 := congrArg Int32.toInt h
    rwa [i32_toInt ha, i32_toInt hb] at h1
  · intro h; rw [h]
theorem i32_lt {a b : Int} (ha : inR a) (hb : inR b) : i32 a < i32 b ↔ a < b := by
  rw [Int32.lt_iff_toInt_lt, i32_toInt ha, i32_toInt hb]
theorem i32_le {a b : Int} (ha : inR a) (hb : inR b) : i32 a ≤ i32 b ↔ a ≤ b := by
  rw [Int32.le_iff_toInt_le, i32_toInt ha, i32_toInt hb]
theorem i32_0 : (0 : Int32) = i32 0 := by decide
theorem inR_0 : inR 0 := by constructor <;> decide
theorem i32_nat {z : Int} (h0 : 0 ≤ z) (h : inR z) : (i32 z).toNatClampNeg = z.toNat := by
  show (i32 z).toInt.toNat = z.toNat
  rw [i32_toInt h]
theorem i32_vp {z : Int} {n : Nat} (h0 : 0 ≤ z) (h1 : z < n) (hn : n ≤ 2147483647) : vp_in (i32 z) n := by
  rw [vp_in_iff, i32_toInt ⟨by omega, by omega⟩]
  exact ⟨h0, h1⟩
theorem toInt_inR (x : Int32) : inR x.toInt := by
  have h1 := x.toInt_lt
  have h2 := x.le_toInt
  constructor <;> omega
theorem i32_div {a b : Int} (ha : inR a) (hb : inR b) : i32 a / i32 b = i32 (a.tdiv b) := by
  have h : (i32 a / i32 b).toInt = (i32 (a.tdiv b)).toInt := by
    rw [Int32.toInt_div, i32_toInt ha, i32_toInt hb]
    unfold i32
    rw [Int32.toInt_ofInt]
  exact Int32.toInt_inj.mp h
theorem i32_rem {a b : Int} (ha : inR a) (hb : inR b) : i32 a - i32 a / i32 b * i32 b = i32 (a.tmod b) := by
  rw [i32_div ha hb, i32_mul, i32_sub]
  congr 1
  have := Int.tmod_add_mul_tdiv a b
  rw [Int.mul_comm] at this
  omega
theorem upd_i32 {g : Int → Int} {z v : Int} (h : 0 ≤ z) : upd (fun j : Nat => i32 (g (j : Int))) z.toNat (i32 v) = (fun j : Nat => i32 (uZ g z v (j : Int))) := by
  funext j
  unfold upd uZ
  by_cases e : j = z.toNat
  · have e2 : (j : Int) = z := by omega
    rw [if_pos e, if_pos e2]
  · have e2 : ¬ (j : Int) = z := by omega
    rw [if_neg e, if_neg e2]
