/-! WHAT A TEXT IS, in numbers: T the bytes, n how many; a failure is its place (inl), a success the place behind and what was read (inr) -/
def zHeld (v a b : Int) : Int := if v < a then a else if b < v then b else v
theorem uF_id {α : Type} {f : Nat → α} {k : Nat} {v : α} (h : f k = v) : f = uF f k v := by
  funext j
  unfold uF
  split
  · next e => rw [e, h]
  · rfl
/-- a list laid into a row from a place on -/
def wrL (g : Int → Int) (k : Int) : List Int → Int → Int
  | [] => g
  | t :: ts => wrL (uZ g k t) (k + 1) ts
theorem wrL_app {g : Int → Int} {k : Int} {a b : List Int} : wrL g k (a ++ b) = wrL (wrL g k a) (k + a.length) b := by
  induction a generalizing g k with
  | nil => simp [wrL]
  | cons x a ih =>
    simp only [List.cons_append, wrL, ih, List.length_cons]
    congr 1
    omega
theorem wrL_one {g : Int → Int} {k t : Int} : wrL g k [t] = uZ g k t := rfl
theorem wrL_lo {g : Int → Int} {k j : Int} {a : List Int} (h : j < k) : wrL g k a j = g j := by
  induction a generalizing g k with
  | nil => rfl
  | cons x a ih => rw [wrL, ih (by omega), uZ_ne (by omega)]
theorem wrL_hi {g : Int → Int} {k j : Int} {a : List Int} (h : k + a.length ≤ j) : wrL g k a j = g j := by
  induction a generalizing g k with
  | nil => rfl
  | cons x a ih => rw [wrL, ih (by simp only [List.length_cons] at h; omega), uZ_ne (by simp only [List.length_cons] at h; omega)]
theorem wrL_in {g : Int → Int} {k : Int} {a : List Int} {i : Nat} {t : Int} (h : a[i]? = some t) : wrL g k a (k + i) = t := by
  induction a generalizing g k i with
  | nil => cases h
  | cons x a ih =>
    rw [wrL]
    cases i with
    | zero =>
      have h2 : x = t := Option.some.inj h
      rw [wrL_lo (by omega), ← h2]
      exact (congrArg (uZ g k x) (by omega)).trans uZ_at
    | succ i =>
      have h3 := ih (g := uZ g k x) (k := k + 1) (i := i) h
      rw [show k + ((i + 1 : Nat) : Int) = k + 1 + (i : Int) by omega]
      exact h3
theorem wrL_all {P : Int → Prop} {g : Int → Int} {k : Int} {a : List Int} (hg : ∀ j, P (g j)) (ha : ∀ t ∈ a, P t) : ∀ j, P (wrL g k a j) := by
  induction a generalizing g k with
  | nil => exact hg
  | cons x a ih => exact ih (uZ_all hg (ha x List.mem_cons_self)) (fun t h => ha t (List.mem_cons_of_mem _ h))
def skF (T : Int → Int) (n : Int) : Nat → Int → Int
  | 0, a => a
  | k + 1, a => if a < n ∧ T a = 32 then skF T n k (a + 1) else a
def sk (T : Int → Int) (n a : Int) : Int := skF T n (n - a).toNat a
def ch (T : Int → Int) (n a : Int) : Int := if a < n then T a else 0
theorem sk_blank {T : Int → Int} {n a : Int} (h : a < n) (h2 : T a = 32) : sk T n a = sk T n (a + 1) := by
  unfold sk
  rw [show (n - a).toNat = (n - (a + 1)).toNat + 1 by omega, skF, if_pos ⟨h, h2⟩]
theorem sk_stop {T : Int → Int} {n a : Int} (h : ¬ (a < n ∧ T a = 32)) : sk T n a = a := by
  unfold sk
  cases (n - a).toNat with
  | zero => rfl
  | succ k => rw [skF, if_neg h]
theorem skF_in {T : Int → Int} {n : Int} : ∀ (k : Nat) (a : Int), a ≤ n → a ≤ skF T n k a ∧ skF T n k a ≤ n := by
  intro k
  induction k with
  | zero => intro a h; exact ⟨Int.le_refl _, h⟩
  | succ k ih =>
    intro a h
    rw [skF]
    split
    · next h2 => have := ih (a + 1) (by omega); omega
    · omega
theorem sk_in {T : Int → Int} {n a : Int} (h : a ≤ n) : a ≤ sk T n a ∧ sk T n a ≤ n := skF_in _ a h
theorem skF_end {T : Int → Int} {n : Int} : ∀ (k : Nat) (a : Int), n - a ≤ k → ¬ (skF T n k a < n ∧ T (skF T n k a) = 32) := by
  intro k
  induction k with
  | zero => intro a h h2; simp only [skF] at h2; omega
  | succ k ih =>
    intro a h
    rw [skF]
    split
    · next h2 => exact ih (a + 1) (by omega)
    · next h2 => exact h2
theorem sk_end {T : Int → Int} {n a : Int} : ¬ (sk T n a < n ∧ T (sk T n a) = 32) := skF_end _ a (by omega)
theorem sk_idem {T : Int → Int} {n a : Int} : sk T n (sk T n a) = sk T n a := sk_stop sk_end
/-- a byte of the TAPE -/
abbrev okT (T : Int → Int) (n : Int) : Prop := 0 ≤ n ∧ n ≤ 160 ∧ ∀ j, 0 ≤ j → j < n → 1 ≤ T j ∧ T j ≤ 255
/-- a number of so many digits at most -/
def numF (T : Int → Int) (n dg st : Int) : Nat → Int → Int → Int ⊕ (Int × Int)
  | 0, a, v => .inr (a, v)
  | k + 1, a, v => if a < n ∧ 48 ≤ T a ∧ T a ≤ 57 then (if dg ≤ a - st then .inl a else numF T n dg st k (a + 1) (v * 10 + T a - 48)) else .inr (a, v)
def numE (lo hi : Int) (r : Int ⊕ (Int × Int)) : Int ⊕ (Int × Int) := match r with
  | .inl f => .inl f
  | .inr (a, v) => if v < lo ∨ hi < v then .inl (a - 1) else .inr (a, v)
def pNum (T : Int → Int) (n dg lo hi a : Int) : Int ⊕ (Int × Int) :=
  if 48 ≤ ch T n (sk T n a) ∧ ch T n (sk T n a) ≤ 57 then numE lo hi (numF T n dg (sk T n a) 6 (sk T n a) 0) else .inl (sk T n a)
