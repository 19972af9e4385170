/-! A TOWN's TEXT -/
def itemOf (c : Int) : Int := if c = 98 then 0 else if c = 100 then 1 else if c = 107 then 2 else if c = 102 then 3 else if c = 104 then 4 else -1
def pIt (T : Int → Int) (n : Int) (ofP : Bool) : Nat → Int → Int → (Int → Int) → Int ⊕ (Int × (Int → Int))
  | 0, _, a, _ => .inl a
  | k + 1, seen, a, r =>
    if itemOf (ch T n (sk T n a)) = -1 then .inr (sk T n a, r)
    else if (ofP = false ∧ itemOf (ch T n (sk T n a)) ≠ 0) ∨ zAnd (zShr seen (itemOf (ch T n (sk T n a)))) 1 ≠ 0 then .inl (sk T n a)
    else match pNum T n 2 (gTL (itemOf (ch T n (sk T n a)))) (gTM (itemOf (ch T n (sk T n a)))) (sk T n a + 1) with
      | .inl f => .inl f
      | .inr q => pIt T n ofP k (zOr seen (zShl 1 (itemOf (ch T n (sk T n a))))) q.1 (uZ r (itemOf (ch T n (sk T n a))) q.2)
abbrev TS : Type := Int × Int × Int × (Int → Int → Int)
def row0 : Int → Int := fun j => if j = 0 then 60 else if j = 3 then -1 else if j = 4 then 5 else 0
def pCl (T : Int → Int) (n a : Int) (s : TS) : Int ⊕ (Int × TS) :=
  if ch T n (sk T n a) = 112 ∧ s.1 < 6 then
    match pIt T n true 6 0 (sk T n a + 1) row0 with
    | .inl f => .inl f
    | .inr q => .inr (q.1, (s.1 + 1, s.2.1, s.2.2.1, uZ s.2.2.2 s.1 q.2))
  else if ch T n (sk T n a) = 109 ∧ s.2.2.1 = 0 then
    match pIt T n false 6 0 (sk T n a + 1) (fun _ => s.2.1) with
    | .inl f => .inl f
    | .inr q => .inr (q.1, (s.1, q.2 0, 1, s.2.2.2))
  else .inl (sk T n a)
def pTnL (T : Int → Int) (n : Int) : Nat → Int → TS → Int ⊕ (Int × TS)
  | 0, a, s => .inr (a, s)
  | k + 1, a, s =>
    match pCl T n a s with
    | .inl f => .inl f
    | .inr q =>
      if ch T n (sk T n q.1) = 0 then .inr (sk T n q.1, q.2)
      else if ch T n (sk T n q.1) = 59 then pTnL T n k (sk T n q.1 + 1) q.2
      else .inl (sk T n q.1)
/-- whom each follows is told, and not itself; there is a player -/
def okTn (s : TS) : Prop := 0 < s.1 ∧ ∀ i, 0 ≤ i → i < s.1 → s.2.2.2 i 3 ≠ i ∧ s.2.2.2 i 3 < s.1
theorem numF_in {T : Int → Int} {n dg st : Int} : ∀ (k : Nat) (a v : Int), a ≤ n → (∀ f, numF T n dg st k a v = .inl f → a ≤ f ∧ f < n) ∧ (∀ q, numF T n dg st k a v = .inr q → a ≤ q.1 ∧ q.1 ≤ n) := by
  intro k
  induction k with
  | zero =>
    intro a v h
    refine ⟨fun f hf => (by cases hf), fun q hq => ?_⟩
    cases hq
    exact ⟨Int.le_refl _, h⟩
  | succ k ih =>
    intro a v h
    rw [numF]
    split
    · next h2 =>
      split
      · refine ⟨fun f hf => ?_, fun q hq => (by cases hq)⟩
        cases hf
        omega
      · have h3 := ih (a + 1) (v * 10 + T a - 48) (by omega)
        exact ⟨fun f hf => by have := h3.1 f hf; omega, fun q hq => by have := h3.2 q hq; omega⟩
    · refine ⟨fun f hf => (by cases hf), fun q hq => ?_⟩
      cases hq
      exact ⟨Int.le_refl _, h⟩
/-- the first digit is read -/
theorem numF_first {T : Int → Int} {n dg st : Int} {k : Nat} {a v : Int} (hd : 0 < dg) (h : a < n ∧ 48 ≤ T a ∧ T a ≤ 57) (hs : st = a) : numF T n dg st (k + 1) a v = numF T n dg st k (a + 1) (v * 10 + T a - 48) := by
  rw [numF, if_pos h, if_neg (by omega)]
theorem pNum_in {T : Int → Int} {n dg lo hi a : Int} (ha : a ≤ n) (hd : 0 < dg) (hn : n ≤ 160) (h0 : 0 ≤ a) :
    (∀ f, pNum T n dg lo hi a = .inl f → a ≤ f ∧ f ≤ n) ∧ (∀ q, pNum T n dg lo hi a = .inr q → a < q.1 ∧ q.1 ≤ n ∧ lo ≤ q.2 ∧ q.2 ≤ hi) := by
  have h1 := sk_in (T := T) ha
  unfold pNum
  split
  · next h2 =>
    have h3 : sk T n a < n ∧ 48 ≤ T (sk T n a) ∧ T (sk T n a) ≤ 57 := by
      unfold ch at h2
      split at h2 <;> omega
    have h4 := numF_in (T := T) (dg := dg) (st := sk T n a) 5 (sk T n a + 1) (0 * 10 + T (sk T n a) - 48) (by omega : sk T n a + 1 ≤ n)
    rw [numF_first hd h3 rfl]
    cases hr : numF T n dg (sk T n a) 5 (sk T n a + 1) (0 * 10 + T (sk T n a) - 48) with
    | inl f =>
      have := h4.1 f hr
      refine ⟨fun f' hf => ?_, fun q hq => (by cases hq)⟩
      cases hf
      omega
    | inr q =>
      have := h4.2 q hr
      rw [numE]
      split
      · refine ⟨fun f' hf => ?_, fun q' hq => (by cases hq)⟩
        cases hf
        omega
      · refine ⟨fun f' hf => (by cases hf), fun q' hq => ?_⟩
        cases hq
        exact ⟨by show _ < q.1; omega, by show q.1 ≤ _; omega, by show _ ≤ q.2; omega, by show q.2 ≤ _; omega⟩
  · refine ⟨fun f' hf => ?_, fun q' hq => (by cases hq)⟩
    cases hf
    omega
theorem itemOf_in (c : Int) : itemOf c = -1 ∨ (0 ≤ itemOf c ∧ itemOf c ≤ 4) := by
  unfold itemOf
  split
  · right; decide
  · split
    · right; decide
    · split
      · right; decide
      · split
        · right; decide
        · split
          · right; decide
          · left; rfl
/-- what a row of items may hold -/
def okRow (r : Int → Int) : Prop := (1 ≤ r 0 ∧ r 0 ≤ 99) ∧ (0 ≤ r 1 ∧ r 1 ≤ 9) ∧ (0 ≤ r 2 ∧ r 2 ≤ 3) ∧ (-1 ≤ r 3 ∧ r 3 ≤ 5) ∧ (0 ≤ r 4 ∧ r 4 ≤ 10)
theorem okRow_put {r : Int → Int} {i v : Int} (h : okRow r) (hi : 0 ≤ i ∧ i ≤ 4) (hv : gTL i ≤ v ∧ v ≤ gTM i) : okRow (uZ r i v) := by
  obtain ⟨h0, h1, h2, h3, h4⟩ := h
  rcases (by omega : i = 0 ∨ i = 1 ∨ i = 2 ∨ i = 3 ∨ i = 4) with rfl | rfl | rfl | rfl | rfl <;>
    simp only [gTL, gTM, uZ, okRow] at * <;> simp at hv ⊢ <;> omega
theorem pIt_in {T : Int → Int} {n : Int} {ofP : Bool} (hn : n ≤ 160) : ∀ (k : Nat) (seen a : Int) (r : Int → Int), 0 ≤ a → a ≤ n → okRow r →
    (∀ f, pIt T n ofP k seen a r = .inl f → a ≤ f ∧ f ≤ n) ∧ (∀ q, pIt T n ofP k seen a r = .inr q → a ≤ q.1 ∧ q.1 ≤ n ∧ okRow q.2) := by
  intro k
  induction k with
  | zero =>
    intro seen a r h0 ha hr
    refine ⟨fun f hf => ?_, fun q hq => (by cases hq)⟩
    cases hf
    omega
  | succ k ih =>
    intro seen a r h0 ha hr
    have h1 := sk_in (T := T) ha
    rw [pIt]
    split
    · refine ⟨fun f hf => (by cases hf), fun q hq => ?_⟩
      cases hq
      exact ⟨h1.1, h1.2, hr⟩
    · next hi =>
      split
      · refine ⟨fun f hf => ?_, fun q hq => (by cases hq)⟩
        cases hf
        omega
      · have hit : 0 ≤ itemOf (ch T n (sk T n a)) ∧ itemOf (ch T n (sk T n a)) ≤ 4 := (itemOf_in _).resolve_left hi
        have hlt : sk T n a < n := by
          rcases Int.lt_or_le (sk T n a) n with q | q
          · exact q
          · exfalso
            apply hi
            unfold ch
            rw [if_neg (by omega)]
            rfl
        have h2 := pNum_in (T := T) (n := n) (dg := 2) (lo := gTL (itemOf (ch T n (sk T n a)))) (hi := gTM (itemOf (ch T n (sk T n a)))) (a := sk T n a + 1) (by omega) (by decide) hn (by omega)
        cases hp : pNum T n 2 (gTL (itemOf (ch T n (sk T n a)))) (gTM (itemOf (ch T n (sk T n a)))) (sk T n a + 1) with
        | inl f =>
          refine ⟨fun f' hf => ?_, fun q hq => (by cases hq)⟩
          cases hf
          have := h2.1 f hp
          omega
        | inr q =>
          have h3 := h2.2 q hp
          have h4 := ih (zOr seen (zShl 1 (itemOf (ch T n (sk T n a))))) q.1 (uZ r (itemOf (ch T n (sk T n a))) q.2) (by omega) h3.2.1 (okRow_put hr hit h3.2.2)
          exact ⟨fun f hf => by have := h4.1 f hf; omega, fun q' hq => by have := h4.2 q' hq; exact ⟨by omega, this.2⟩⟩
theorem okRow_row0 : okRow row0 := by unfold okRow row0; decide
