/-! A LAW's TEXT: its signs in the order in which they are worked out (numbers as they are, all others below 0); k: how many levels of ( [ ! are left -/
abbrev LR : Type := Int ⊕ (Int × List Int)
def atomG (T : Int → Int) (n : Int) (nx : Int → LR) (k : Nat) (a : Int) : LR :=
  if 48 ≤ ch T n (sk T n a) ∧ ch T n (sk T n a) ≤ 57 then
    match pNum T n 4 0 9999 (sk T n a) with
    | .inl f => .inl f
    | .inr q => .inr (q.1, [q.2])
  else if ch T n (sk T n a) = 100 ∨ ch T n (sk T n a) = 119 ∨ ch T n (sk T n a) = 109 ∨ ch T n (sk T n a) = 110 ∨ ch T n (sk T n a) = 111 then .inr (sk T n a + 1, [-ch T n (sk T n a)])
  else if ch T n (sk T n a) = 91 ∧ k ≠ 0 then
    match nx (sk T n a + 1) with
    | .inl f => .inl f
    | .inr q => if ch T n (sk T n q.1) = 93 then .inr (sk T n q.1 + 1, q.2) else .inl (sk T n q.1)
  else .inl (sk T n a)
def isAdd (c : Int) : Prop := c = 43 ∨ c = 45
def sumL (T : Int → Int) (n : Int) (atom : Int → LR) : Nat → Int → Int → List Int → LR
  | 0, _, a, _ => .inl a
  | f + 1, w, a, acc =>
    if ch T n (sk T n a) = 43 ∨ ch T n (sk T n a) = 45 then
      match atom (sk T n a + 1) with
      | .inl g => .inl g
      | .inr q => sumL T n atom f (ch T n (sk T n a)) q.1 ((if w = 0 then acc else acc ++ [-w]) ++ q.2)
    else if ch T n (sk T n a) = 42 ∨ ch T n (sk T n a) = 47 then
      match atom (sk T n a + 1) with
      | .inl g => .inl g
      | .inr q => sumL T n atom f w q.1 (acc ++ q.2 ++ [-ch T n (sk T n a)])
    else .inr (sk T n a, if w = 0 then acc else acc ++ [-w])
def sumG (T : Int → Int) (n : Int) (atom : Int → LR) (a : Int) : LR :=
  match atom a with
  | .inl f => .inl f
  | .inr q => sumL T n atom 161 0 q.1 q.2
def pSum (T : Int → Int) (n : Int) : Nat → Int → LR
  | 0 => sumG T n (atomG T n (fun _ => .inl 0) 0)
  | k + 1 => sumG T n (atomG T n (pSum T n k) (k + 1))
def pAtom (T : Int → Int) (n : Int) (k : Nat) : Int → LR := match k with
  | 0 => atomG T n (fun _ => .inl 0) 0
  | k + 1 => atomG T n (pSum T n k) (k + 1)
theorem pSum_eq (T : Int → Int) (n : Int) (k : Nat) : pSum T n k = sumG T n (pAtom T n k) := by cases k <;> rfl
def isCmp (c : Int) : Prop := c = 61 ∨ c = 60 ∨ c = 62
def cmpG (T : Int → Int) (n : Int) (k : Nat) (a : Int) : LR :=
  if ch T n (sk T n a) = 61 ∨ ch T n (sk T n a) = 60 ∨ ch T n (sk T n a) = 62 then
    match pSum T n k (sk T n a + 1) with
    | .inl f => .inl f
    | .inr q => .inr (q.1, q.2 ++ [-ch T n (sk T n a)])
  else .inl (sk T n a)
def unitG (T : Int → Int) (n : Int) (co un : Int → LR) (k : Nat) (a : Int) : LR :=
  if ch T n (sk T n a) ≠ 33 ∧ ch T n (sk T n a) ≠ 40 then
    match pSum T n k (sk T n a) with
    | .inl f => .inl f
    | .inr q =>
      match cmpG T n k q.1 with
      | .inl f => .inl f
      | .inr r => .inr (r.1, q.2 ++ r.2)
  else if k = 0 then .inl (sk T n a)
  else if ch T n (sk T n a) = 33 then
    match un (sk T n a + 1) with
    | .inl f => .inl f
    | .inr q => .inr (q.1, q.2 ++ [-33])
  else
    match co (sk T n a + 1) with
    | .inl f => .inl f
    | .inr q => if ch T n (sk T n q.1) = 41 then .inr (sk T n q.1 + 1, q.2) else .inl (sk T n q.1)
def moreL (T : Int → Int) (n : Int) (unit : Int → LR) : Nat → Bool → Int → List Int → LR
  | 0, _, a, _ => .inl a
  | f + 1, w, a, acc =>
    if ch T n (sk T n a) = 124 then
      match unit (sk T n a + 1) with
      | .inl g => .inl g
      | .inr q => moreL T n unit f true q.1 ((if w then acc ++ [-124] else acc) ++ q.2)
    else if ch T n (sk T n a) = 38 then
      match unit (sk T n a + 1) with
      | .inl g => .inl g
      | .inr q => moreL T n unit f w q.1 (acc ++ q.2 ++ [-38])
    else .inr (sk T n a, if w then acc ++ [-124] else acc)
def condG (T : Int → Int) (n : Int) (unit : Int → LR) (a : Int) : LR :=
  match unit a with
  | .inl f => .inl f
  | .inr q => moreL T n unit 161 false q.1 q.2
def pUnit (T : Int → Int) (n : Int) : Nat → Int → LR
  | 0 => unitG T n (fun _ => .inl 0) (fun _ => .inl 0) 0
  | k + 1 => unitG T n (condG T n (pUnit T n k)) (pUnit T n k) (k + 1)
def pCond (T : Int → Int) (n : Int) (k : Nat) : Int → LR := condG T n (pUnit T n k)
def sumB (T : Int → Int) (n a : Int) (acc : List Int) : LR :=
  if ch T n (sk T n a) = 63 then
    match pSum T n 6 (sk T n a + 1) with
    | .inl f => .inl f
    | .inr q => .inr (q.1, acc ++ [-63] ++ q.2 ++ [-59])
  else .inl (sk T n a)
def pLawC (T : Int → Int) (n a : Int) : LR :=
  if ch T n (sk T n a) = 121 then
    if ch T n (sk T n (sk T n a + 1)) = 58 then
      if ch T n (sk T n (sk T n (sk T n a + 1) + 1)) = 33 ∨ ch T n (sk T n (sk T n (sk T n a + 1) + 1)) = 40 then
        match pCond T n 6 (sk T n (sk T n (sk T n a + 1) + 1)) with
        | .inl f => .inl f
        | .inr q => sumB T n q.1 q.2
      else
        match pSum T n 6 (sk T n (sk T n (sk T n a + 1) + 1)) with
        | .inl f => .inl f
        | .inr q =>
          if ch T n (sk T n q.1) = 61 ∨ ch T n (sk T n q.1) = 60 ∨ ch T n (sk T n q.1) = 62 then
            match cmpG T n 6 (sk T n q.1) with
            | .inl f => .inl f
            | .inr r =>
              match moreL T n (pUnit T n 6) 161 false r.1 (q.2 ++ r.2) with
              | .inl f => .inl f
              | .inr t => sumB T n t.1 t.2
          else .inr (sk T n q.1, q.2 ++ [-59])
    else .inl (sk T n (sk T n a + 1))
  else .inl (sk T n a)
def pLawL (T : Int → Int) (n : Int) : Nat → Int → List Int → LR
  | 0, a, acc => .inr (a, acc)
  | k + 1, a, acc =>
    match pLawC T n a with
    | .inl f => .inl f
    | .inr q =>
      if ch T n (sk T n q.1) = 0 then .inr (sk T n q.1, acc ++ q.2)
      else if ch T n (sk T n q.1) = 59 then pLawL T n k (sk T n q.1 + 1) (acc ++ q.2)
      else .inl (sk T n q.1)
/-- where a reading may end, and that it tells no more signs than it read -/
def okLR (n a : Int) (r : LR) : Prop := (∀ f, r = .inl f → 0 ≤ f ∧ f ≤ n) ∧ (∀ q, r = .inr q → a < q.1 ∧ q.1 ≤ n ∧ (q.2.length : Int) ≤ q.1 - a ∧ 0 < q.2.length ∧ ∀ t ∈ q.2, -200 ≤ t ∧ t ≤ 9999)
theorem okLR_l {n a f : Int} (h : 0 ≤ f ∧ f ≤ n) : okLR n a (.inl f) := ⟨fun f' e => (by cases e; exact h), fun q e => (by cases e)⟩
theorem okLR_r {n a b : Int} {ts : List Int} (h : a < b ∧ b ≤ n ∧ (ts.length : Int) ≤ b - a ∧ 0 < ts.length ∧ ∀ t ∈ ts, -200 ≤ t ∧ t ≤ 9999) : okLR n a (.inr (b, ts)) := ⟨fun f' e => (by cases e), fun q e => (by cases e; exact h)⟩
theorem ch_lt {T : Int → Int} {n a : Int} (h : ch T n a ≠ 0) : a < n := by
  rcases Int.lt_or_le a n with q | q
  · exact q
  · exfalso; apply h; unfold ch; rw [if_neg (by omega)]
theorem ok_one {t : Int} (h : -200 ≤ t ∧ t ≤ 9999) : ∀ x ∈ [t], -200 ≤ x ∧ x ≤ 9999 := fun x hx => by rw [List.mem_singleton.mp hx]; exact h
theorem ok_app {a b : List Int} (ha : ∀ x ∈ a, -200 ≤ x ∧ x ≤ 9999) (hb : ∀ x ∈ b, -200 ≤ x ∧ x ≤ 9999) : ∀ x ∈ a ++ b, -200 ≤ x ∧ x ≤ 9999 := fun x hx => (List.mem_append.mp hx).elim (ha x) (hb x)
theorem atomG_ok {T : Int → Int} {n : Int} {nx : Int → LR} {k : Nat} (hn : n ≤ 160) (hx : k ≠ 0 → ∀ a, 0 ≤ a → a ≤ n → okLR n a (nx a)) (a : Int) (h0 : 0 ≤ a) (ha : a ≤ n) : okLR n a (atomG T n nx k a) := by
  have h1 := sk_in (T := T) ha
  unfold atomG
  split
  · have h2 := pNum_in (T := T) (n := n) (dg := 4) (lo := 0) (hi := 9999) (a := sk T n a) h1.2 (by decide) hn (by omega)
    cases hp : pNum T n 4 0 9999 (sk T n a) with
    | inl f => have := h2.1 f hp; exact okLR_l ⟨by omega, by omega⟩
    | inr q => have := h2.2 q hp; exact okLR_r ⟨by omega, by omega, by simp only [List.length_singleton]; omega, by simp, ok_one (by omega)⟩
  · split
    · next h2 =>
      have h3 : sk T n a < n := ch_lt (T := T) (by omega)
      exact okLR_r ⟨by omega, by omega, by simp only [List.length_singleton]; omega, by simp, ok_one (by omega)⟩
    · split
      · next h2 =>
        have h3 : sk T n a < n := ch_lt (T := T) (by omega)
        have h4 := hx h2.2 (sk T n a + 1) (by omega) (by omega)
        cases hp : nx (sk T n a + 1) with
        | inl f => exact okLR_l (h4.1 f hp)
        | inr q =>
          have h5 := h4.2 q hp
          have h6 := sk_in (T := T) h5.2.1
          show okLR n a (if ch T n (sk T n q.1) = 93 then .inr (sk T n q.1 + 1, q.2) else .inl (sk T n q.1))
          split
          · next h7 =>
            have h8 : sk T n q.1 < n := ch_lt (T := T) (by omega)
            exact okLR_r ⟨by omega, by omega, by omega, h5.2.2.2.1, h5.2.2.2.2⟩
          · exact okLR_l ⟨by omega, by omega⟩
      · exact okLR_l ⟨by omega, by omega⟩
theorem sumL_ok {T : Int → Int} {n a0 : Int} {atom : Int → LR} (hx : ∀ a, 0 ≤ a → a ≤ n → okLR n a (atom a)) (h00 : 0 ≤ a0) : ∀ (f : Nat) (w a : Int) (acc : List Int), a0 < a → a ≤ n → (acc.length : Int) + (if w = 0 then 0 else 1) ≤ a - a0 → 0 < acc.length → (∀ t ∈ acc, -200 ≤ t ∧ t ≤ 9999) → (w = 0 ∨ w = 43 ∨ w = 45) → okLR n a0 (sumL T n atom f w a acc) := by
  intro f
  induction f with
  | zero => intro w a acc h1 h2 h3 h4 h5 h6; exact okLR_l ⟨by omega, h2⟩
  | succ f ih =>
    intro w a acc h1 h2 h3 h4 h5 h6
    have k1 := sk_in (T := T) h2
    rw [sumL]
    split
    · next k2 =>
      have k3 : sk T n a < n := ch_lt (T := T) (by omega)
      have k4 := hx (sk T n a + 1) (by omega) (by omega)
      cases hp : atom (sk T n a + 1) with
      | inl g => exact okLR_l (k4.1 g hp)
      | inr q =>
        have k5 := k4.2 q hp
        refine ih _ _ _ (by omega) k5.2.1 ?_ ?_ ?_ (Or.inr k2)
        · rw [if_neg (show ¬ ch T n (sk T n a) = 0 by omega)]
          split at h3
          · next e => rw [if_pos e]; simp only [List.length_append]; omega
          · next e => rw [if_neg e]; simp only [List.length_append, List.length_singleton]; omega
        · simp only [List.length_append]; omega
        · refine ok_app ?_ k5.2.2.2.2
          split
          · exact h5
          · exact ok_app h5 (ok_one (by omega))
    · split
      · next k2 =>
        have k3 : sk T n a < n := ch_lt (T := T) (by omega)
        have k4 := hx (sk T n a + 1) (by omega) (by omega)
        cases hp : atom (sk T n a + 1) with
        | inl g => exact okLR_l (k4.1 g hp)
        | inr q =>
          have k5 := k4.2 q hp
          refine ih _ _ _ (by omega) k5.2.1 ?_ ?_ ?_ h6
          · simp only [List.length_append, List.length_singleton]; omega
          · simp only [List.length_append]; omega
          · exact ok_app (ok_app h5 k5.2.2.2.2) (ok_one (by omega))
      · split at h3
        · next e => rw [if_pos e]; exact okLR_r ⟨by omega, by omega, by omega, h4, h5⟩
        · next e => rw [if_neg e]; exact okLR_r ⟨by omega, by omega, by simp only [List.length_append, List.length_singleton]; omega, by simp, ok_app h5 (ok_one (by omega))⟩
theorem sumG_ok {T : Int → Int} {n : Int} {atom : Int → LR} (hx : ∀ a, 0 ≤ a → a ≤ n → okLR n a (atom a)) (a : Int) (h0 : 0 ≤ a) (ha : a ≤ n) : okLR n a (sumG T n atom a) := by
  unfold sumG
  have h1 := hx a h0 ha
  cases hp : atom a with
  | inl f => exact okLR_l (h1.1 f hp)
  | inr q =>
    have h2 := h1.2 q hp
    exact sumL_ok hx h0 161 0 q.1 q.2 h2.1 h2.2.1 (by rw [if_pos rfl]; omega) h2.2.2.2.1 h2.2.2.2.2 (Or.inl rfl)
theorem pAS_ok {T : Int → Int} {n : Int} (hn : n ≤ 160) : ∀ (k : Nat), (∀ a, 0 ≤ a → a ≤ n → okLR n a (pAtom T n k a)) ∧ (∀ a, 0 ≤ a → a ≤ n → okLR n a (pSum T n k a)) := by
  intro k
  induction k with
  | zero =>
    have h1 : ∀ a, 0 ≤ a → a ≤ n → okLR n a (pAtom T n 0 a) := fun a h0 ha => (atomG_ok hn (fun h => absurd rfl h) a h0 ha : okLR n a (atomG T n (fun _ => .inl 0) 0 a))
    exact ⟨h1, fun a h0 ha => by rw [pSum_eq]; exact sumG_ok h1 a h0 ha⟩
  | succ k ih =>
    have h1 : ∀ a, 0 ≤ a → a ≤ n → okLR n a (pAtom T n (k + 1) a) := fun a h0 ha => (atomG_ok hn (fun _ => ih.2) a h0 ha : okLR n a (atomG T n (pSum T n k) (k + 1) a))
    exact ⟨h1, fun a h0 ha => by rw [pSum_eq]; exact sumG_ok h1 a h0 ha⟩
theorem cmpG_ok {T : Int → Int} {n : Int} (hn : n ≤ 160) (k : Nat) (a : Int) (h0 : 0 ≤ a) (ha : a ≤ n) : okLR n a (cmpG T n k a) := by
  have h1 := sk_in (T := T) ha
  unfold cmpG
  split
  · next h2 =>
    have h3 : sk T n a < n := ch_lt (T := T) (by omega)
    have h4 := (pAS_ok (T := T) hn k).2 (sk T n a + 1) (by omega) (by omega)
    cases hp : pSum T n k (sk T n a + 1) with
    | inl f => exact okLR_l (h4.1 f hp)
    | inr q =>
      have h5 := h4.2 q hp
      exact okLR_r ⟨by omega, by omega, by simp only [List.length_append, List.length_singleton]; omega, by simp, ok_app h5.2.2.2.2 (ok_one (by omega))⟩
  · exact okLR_l ⟨by omega, by omega⟩
theorem unitG_ok {T : Int → Int} {n : Int} {co un : Int → LR} {k : Nat} (hn : n ≤ 160) (hc : k ≠ 0 → ∀ a, 0 ≤ a → a ≤ n → okLR n a (co a)) (hu : k ≠ 0 → ∀ a, 0 ≤ a → a ≤ n → okLR n a (un a)) (a : Int) (h0 : 0 ≤ a) (ha : a ≤ n) : okLR n a (unitG T n co un k a) := by
  have h1 := sk_in (T := T) ha
  unfold unitG
  split
  · have h4 := (pAS_ok (T := T) hn k).2 (sk T n a) (by omega) (by omega)
    cases hp : pSum T n k (sk T n a) with
    | inl f => exact okLR_l (h4.1 f hp)
    | inr q =>
      have h5 := h4.2 q hp
      have h6 := cmpG_ok (T := T) hn k q.1 (by omega) h5.2.1
      show okLR n a (match cmpG T n k q.1 with | .inl f => .inl f | .inr r => .inr (r.1, q.2 ++ r.2))
      cases hq : cmpG T n k q.1 with
      | inl f => exact okLR_l (h6.1 f hq)
      | inr r =>
        have h7 := h6.2 r hq
        exact okLR_r ⟨by omega, by omega, by simp only [List.length_append]; omega, by simp only [List.length_append]; omega, ok_app h5.2.2.2.2 h7.2.2.2.2⟩
  · next h2 =>
    have h3 : sk T n a < n := ch_lt (T := T) (by intro e; apply h2; omega)
    split
    · exact okLR_l ⟨by omega, by omega⟩
    · next hk =>
      split
      · have h4 := hu hk (sk T n a + 1) (by omega) (by omega)
        cases hp : un (sk T n a + 1) with
        | inl f => exact okLR_l (h4.1 f hp)
        | inr q =>
          have h5 := h4.2 q hp
          exact okLR_r ⟨by omega, by omega, by simp only [List.length_append, List.length_singleton]; omega, by simp, ok_app h5.2.2.2.2 (ok_one (by omega))⟩
      · have h4 := hc hk (sk T n a + 1) (by omega) (by omega)
        cases hp : co (sk T n a + 1) with
        | inl f => exact okLR_l (h4.1 f hp)
        | inr q =>
          have h5 := h4.2 q hp
          have h6 := sk_in (T := T) h5.2.1
          show okLR n a (if ch T n (sk T n q.1) = 41 then .inr (sk T n q.1 + 1, q.2) else .inl (sk T n q.1))
          split
          · next h7 =>
            have h8 : sk T n q.1 < n := ch_lt (T := T) (by omega)
            exact okLR_r ⟨by omega, by omega, by omega, h5.2.2.2.1, h5.2.2.2.2⟩
          · exact okLR_l ⟨by omega, by omega⟩
theorem moreL_ok {T : Int → Int} {n a0 : Int} {unit : Int → LR} (hx : ∀ a, 0 ≤ a → a ≤ n → okLR n a (unit a)) (h00 : 0 ≤ a0) : ∀ (f : Nat) (w : Bool) (a : Int) (acc : List Int), a0 < a → a ≤ n → (acc.length : Int) + (if w then 1 else 0) ≤ a - a0 → 0 < acc.length → (∀ t ∈ acc, -200 ≤ t ∧ t ≤ 9999) → okLR n a0 (moreL T n unit f w a acc) := by
  intro f
  induction f with
  | zero => intro w a acc h1 h2 h3 h4 h5; exact okLR_l ⟨by omega, h2⟩
  | succ f ih =>
    intro w a acc h1 h2 h3 h4 h5
    have k1 := sk_in (T := T) h2
    rw [moreL]
    split
    · next k2 =>
      have k3 : sk T n a < n := ch_lt (T := T) (by omega)
      have k4 := hx (sk T n a + 1) (by omega) (by omega)
      cases hp : unit (sk T n a + 1) with
      | inl g => exact okLR_l (k4.1 g hp)
      | inr q =>
        have k5 := k4.2 q hp
        refine ih _ _ _ (by omega) k5.2.1 ?_ ?_ ?_
        · cases w <;> simp at h3 ⊢ <;> omega
        · simp only [List.length_append]; omega
        · refine ok_app ?_ k5.2.2.2.2
          cases w
          · exact h5
          · exact ok_app h5 (ok_one (by decide))
    · split
      · next k2 =>
        have k3 : sk T n a < n := ch_lt (T := T) (by omega)
        have k4 := hx (sk T n a + 1) (by omega) (by omega)
        cases hp : unit (sk T n a + 1) with
        | inl g => exact okLR_l (k4.1 g hp)
        | inr q =>
          have k5 := k4.2 q hp
          refine ih _ _ _ (by omega) k5.2.1 ?_ ?_ ?_
          · simp only [List.length_append, List.length_singleton]; omega
          · simp only [List.length_append]; omega
          · exact ok_app (ok_app h5 k5.2.2.2.2) (ok_one (by decide))
      · cases w
        · exact okLR_r ⟨by omega, by omega, by simp at h3; show (acc.length : Int) ≤ _; omega, h4, h5⟩
        · refine okLR_r ⟨by omega, by omega, ?_, by simp, ok_app h5 (ok_one (by decide))⟩
          simp at h3 ⊢
          omega
theorem condG_ok {T : Int → Int} {n : Int} {unit : Int → LR} (hx : ∀ a, 0 ≤ a → a ≤ n → okLR n a (unit a)) (a : Int) (h0 : 0 ≤ a) (ha : a ≤ n) : okLR n a (condG T n unit a) := by
  unfold condG
  have h1 := hx a h0 ha
  cases hp : unit a with
  | inl f => exact okLR_l (h1.1 f hp)
  | inr q =>
    have h2 := h1.2 q hp
    exact moreL_ok hx h0 161 false q.1 q.2 h2.1 h2.2.1 (by simp; omega) h2.2.2.2.1 h2.2.2.2.2
theorem pUnit_ok {T : Int → Int} {n : Int} (hn : n ≤ 160) : ∀ (k : Nat) (a : Int), 0 ≤ a → a ≤ n → okLR n a (pUnit T n k a) := by
  intro k
  induction k with
  | zero => intro a h0 ha; exact unitG_ok hn (fun h => absurd rfl h) (fun h => absurd rfl h) a h0 ha
  | succ k ih => intro a h0 ha; exact unitG_ok hn (fun _ => condG_ok ih) (fun _ => ih) a h0 ha
theorem pCond_ok {T : Int → Int} {n : Int} (hn : n ≤ 160) (k : Nat) (a : Int) (h0 : 0 ≤ a) (ha : a ≤ n) : okLR n a (pCond T n k a) := condG_ok (pUnit_ok hn k) a h0 ha
