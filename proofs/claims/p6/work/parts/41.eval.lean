/-! WHAT A LAW's SIGNS ARE BUILT OF: sums and conditions, by their closures -/
def isOpd (t : Int) : Prop := (0 ≤ t ∧ t ≤ 9999) ∨ t = -100 ∨ t = -119 ∨ t = -109 ∨ t = -110 ∨ t = -111
def isArT (t : Int) : Prop := t = -43 ∨ t = -45 ∨ t = -42 ∨ t = -47
def isCmT (t : Int) : Prop := t = -61 ∨ t = -60 ∨ t = -62
def isLoT (t : Int) : Prop := t = -38 ∨ t = -124
def clP (P Q : List Int → Prop) : Prop := (∀ t, isOpd t → P [t]) ∧ (∀ a b t, P a → P b → isArT t → P (a ++ b ++ [t])) ∧ (∀ a b t, P a → P b → isCmT t → Q (a ++ (b ++ [t]))) ∧ (∀ a, Q a → Q (a ++ [-33])) ∧ (∀ a b t, Q a → Q b → isLoT t → Q (a ++ b ++ [t]))
section PQ
variable {P Q : List Int → Prop} {T : Int → Int} {n : Int}
def gP (P : List Int → Prop) (r : LR) : Prop := ∀ q, r = .inr q → P q.2
theorem gP_l {f : Int} : gP P (.inl f) := fun q h => by cases h
theorem gP_r {a : Int} {ts : List Int} (h : P ts) : gP P (.inr (a, ts)) := fun q e => by cases e; exact h
theorem atomG_P (C : clP P Q) {nx : Int → LR} {k : Nat} (hn : n ≤ 160) (hx : k ≠ 0 → ∀ a, 0 ≤ a → a ≤ n → gP P (nx a)) (a : Int) (h0 : 0 ≤ a) (ha : a ≤ n) : gP P (atomG T n nx k a) := by
  have k1 := sk_in (T := T) ha
  unfold atomG
  split
  · have h2 := pNum_in (T := T) (n := n) (dg := 4) (lo := 0) (hi := 9999) (a := sk T n a) k1.2 (by decide) hn (by omega)
    cases hp : pNum T n 4 0 9999 (sk T n a) with
    | inl f => exact gP_l
    | inr q => exact gP_r (C.1 _ (Or.inl ⟨(h2.2 q hp).2.2.1, (h2.2 q hp).2.2.2⟩))
  · split
    · next h => exact gP_r (C.1 _ (by unfold isOpd; omega))
    · split
      · next h3 =>
        have l1 : sk T n a < n := ch_lt (T := T) (by omega)
        have h4 := hx h3.2 (sk T n a + 1) (by omega) (by omega)
        cases hp : nx (sk T n a + 1) with
        | inl f => exact gP_l
        | inr q =>
          show gP P (if ch T n (sk T n q.1) = 93 then .inr (sk T n q.1 + 1, q.2) else .inl (sk T n q.1))
          split
          · exact gP_r (h4 q hp)
          · exact gP_l
      · exact gP_l
theorem sumL_P (C : clP P Q) {atom : Int → LR} (hx : ∀ a, 0 ≤ a → a ≤ n → okLR n a (atom a) ∧ gP P (atom a)) : ∀ (f : Nat) (w a : Int) (acc : List Int), 0 ≤ a → a ≤ n → ((w = 0 ∧ P acc) ∨ ((w = 43 ∨ w = 45) ∧ ∃ A B, acc = A ++ B ∧ P A ∧ P B)) → gP P (sumL T n atom f w a acc) := by
  intro f
  induction f with
  | zero => intro w a acc h0 ha hw; exact gP_l
  | succ f ih =>
    intro w a acc h0 ha hw
    have k1 := sk_in (T := T) ha
    have closed : P (if w = 0 then acc else acc ++ [-w]) := by
      rcases hw with ⟨h1, h2⟩ | ⟨h1, A, B, h2, h3, h4⟩
      · rw [if_pos h1]; exact h2
      · rw [if_neg (by omega), h2]
        exact C.2.1 A B (-w) h3 h4 (by unfold isArT; omega)
    rw [sumL]
    split
    · next hc =>
      have l1 : sk T n a < n := ch_lt (T := T) (by omega)
      have h4 := hx (sk T n a + 1) (by omega) (by omega)
      cases hp : atom (sk T n a + 1) with
      | inl g => exact gP_l
      | inr q =>
        have h5 := h4.1.2 q hp
        exact ih _ _ _ (by omega) (by omega) (Or.inr ⟨hc, _, _, rfl, closed, h4.2 q hp⟩)
    · split
      · next hc =>
        have l1 : sk T n a < n := ch_lt (T := T) (by omega)
        have h4 := hx (sk T n a + 1) (by omega) (by omega)
        cases hp : atom (sk T n a + 1) with
        | inl g => exact gP_l
        | inr q =>
          have h5 := h4.1.2 q hp
          have ht : isArT (-ch T n (sk T n a)) := by unfold isArT; omega
          refine ih _ _ _ (by omega) (by omega) ?_
          rcases hw with ⟨h1, h2⟩ | ⟨h1, A, B, h2, h3, h6⟩
          · exact Or.inl ⟨h1, C.2.1 _ _ _ h2 (h4.2 q hp) ht⟩
          · refine Or.inr ⟨h1, A, B ++ q.2 ++ [-ch T n (sk T n a)], by rw [h2]; simp only [List.append_assoc], h3, C.2.1 _ _ _ h6 (h4.2 q hp) ht⟩
      · exact gP_r closed
theorem sumG_P (C : clP P Q) {atom : Int → LR} (hx : ∀ a, 0 ≤ a → a ≤ n → okLR n a (atom a) ∧ gP P (atom a)) (a : Int) (h0 : 0 ≤ a) (ha : a ≤ n) : gP P (sumG T n atom a) := by
  unfold sumG
  have h4 := hx a h0 ha
  cases hp : atom a with
  | inl f => exact gP_l
  | inr q =>
    have h5 := h4.1.2 q hp
    exact sumL_P C hx 161 0 q.1 q.2 (by omega) (by omega) (Or.inl ⟨rfl, h4.2 q hp⟩)
theorem pAS_P (C : clP P Q) (hn : n ≤ 160) : ∀ (k : Nat), (∀ a, 0 ≤ a → a ≤ n → gP P (pAtom T n k a)) ∧ (∀ a, 0 ≤ a → a ≤ n → gP P (pSum T n k a)) := by
  intro k
  have sum : ∀ j, (∀ a, 0 ≤ a → a ≤ n → gP P (pAtom T n j a)) → ∀ a, 0 ≤ a → a ≤ n → gP P (pSum T n j a) := by
    intro j hj a h0 ha
    rw [pSum_eq]
    exact sumG_P C (fun b b0 b1 => ⟨(pAS_ok (T := T) hn j).1 b b0 b1, hj b b0 b1⟩) a h0 ha
  induction k with
  | zero =>
    have h1 : ∀ a, 0 ≤ a → a ≤ n → gP P (pAtom T n 0 a) := fun a h0 ha => by
      show gP P (atomG T n (fun _ => .inl 0) 0 a)
      exact atomG_P C hn (fun h => absurd rfl h) a h0 ha
    exact ⟨h1, sum 0 h1⟩
  | succ k ih =>
    have h1 : ∀ a, 0 ≤ a → a ≤ n → gP P (pAtom T n (k + 1) a) := fun a h0 ha => atomG_P C hn (fun _ b b0 b1 => ih.2 b b0 b1) a h0 ha
    exact ⟨h1, sum (k + 1) h1⟩
theorem cmpG_P (C : clP P Q) (hn : n ≤ 160) (k : Nat) (a : Int) (h0 : 0 ≤ a) (ha : a ≤ n) : ∀ q, cmpG T n k a = .inr q → ∃ b t, q.2 = b ++ [t] ∧ P b ∧ isCmT t := by
  intro q hq
  have k1 := sk_in (T := T) ha
  unfold cmpG at hq
  split at hq
  · next hc =>
    have l1 : sk T n a < n := ch_lt (T := T) (by omega)
    have h4 := (pAS_P (T := T) C hn k).2 (sk T n a + 1) (by omega) (by omega)
    cases hp : pSum T n k (sk T n a + 1) with
    | inl f => rw [hp] at hq; cases hq
    | inr r =>
      rw [hp] at hq
      cases hq
      exact ⟨r.2, _, rfl, h4 r hp, by unfold isCmT; omega⟩
  · cases hq
theorem unitG_P (C : clP P Q) {co un : Int → LR} {k : Nat} (hn : n ≤ 160) (hc : k ≠ 0 → ∀ a, 0 ≤ a → a ≤ n → gP Q (co a)) (hu : k ≠ 0 → ∀ a, 0 ≤ a → a ≤ n → gP Q (un a)) (a : Int) (h0 : 0 ≤ a) (ha : a ≤ n) : gP Q (unitG T n co un k a) := by
  have k1 := sk_in (T := T) ha
  unfold unitG
  split
  · have h4 := (pAS_P (T := T) C hn k).2 (sk T n a) (by omega) (by omega)
    have h5 := (pAS_ok (T := T) hn k).2 (sk T n a) (by omega) (by omega)
    cases hp : pSum T n k (sk T n a) with
    | inl f => exact gP_l
    | inr q =>
      have h6 := h5.2 q hp
      have h7 := cmpG_P (T := T) C hn k q.1 (by omega) (by omega)
      dsimp only
      cases hr : cmpG T n k q.1 with
      | inl f => exact gP_l
      | inr r =>
        obtain ⟨b, t, e1, e2, e3⟩ := h7 r hr
        refine gP_r ?_
        rw [e1]
        exact C.2.2.1 _ _ _ (h4 q hp) e2 e3
  · split
    · exact gP_l
    · next hk =>
      split
      · next hc2 =>
        have l1 : sk T n a < n := ch_lt (T := T) (by omega)
        have h4 := hu hk (sk T n a + 1) (by omega) (by omega)
        cases hp : un (sk T n a + 1) with
        | inl f => exact gP_l
        | inr q => exact gP_r (C.2.2.2.1 _ (h4 q hp))
      · next hc1 hc2 =>
        have l1 : sk T n a < n := ch_lt (T := T) (by omega)
        have h4 := hc hk (sk T n a + 1) (by omega) (by omega)
        cases hp : co (sk T n a + 1) with
        | inl f => exact gP_l
        | inr q =>
          show gP Q (if ch T n (sk T n q.1) = 41 then .inr (sk T n q.1 + 1, q.2) else .inl (sk T n q.1))
          split
          · exact gP_r (h4 q hp)
          · exact gP_l
theorem moreL_P (C : clP P Q) {unit : Int → LR} (hx : ∀ a, 0 ≤ a → a ≤ n → okLR n a (unit a) ∧ gP Q (unit a)) : ∀ (f : Nat) (w : Bool) (a : Int) (acc : List Int), 0 ≤ a → a ≤ n → ((w = false ∧ Q acc) ∨ (w = true ∧ ∃ A B, acc = A ++ B ∧ Q A ∧ Q B)) → gP Q (moreL T n unit f w a acc) := by
  intro f
  induction f with
  | zero => intro w a acc h0 ha hw; exact gP_l
  | succ f ih =>
    intro w a acc h0 ha hw
    have k1 := sk_in (T := T) ha
    have closed : Q (if w then acc ++ [-124] else acc) := by
      rcases hw with ⟨h1, h2⟩ | ⟨h1, A, B, h2, h3, h4⟩
      · rw [h1]; exact h2
      · rw [h1, h2]
        exact C.2.2.2.2 A B (-124) h3 h4 (Or.inr rfl)
    rw [moreL]
    split
    · next hc =>
      have l1 : sk T n a < n := ch_lt (T := T) (by omega)
      have h4 := hx (sk T n a + 1) (by omega) (by omega)
      cases hp : unit (sk T n a + 1) with
      | inl g => exact gP_l
      | inr q =>
        have h5 := h4.1.2 q hp
        exact ih _ _ _ (by omega) (by omega) (Or.inr ⟨rfl, _, _, rfl, closed, h4.2 q hp⟩)
    · split
      · next hc =>
        have l1 : sk T n a < n := ch_lt (T := T) (by omega)
        have h4 := hx (sk T n a + 1) (by omega) (by omega)
        cases hp : unit (sk T n a + 1) with
        | inl g => exact gP_l
        | inr q =>
          have h5 := h4.1.2 q hp
          refine ih _ _ _ (by omega) (by omega) ?_
          rcases hw with ⟨h1, h2⟩ | ⟨h1, A, B, h2, h3, h6⟩
          · exact Or.inl ⟨h1, C.2.2.2.2 _ _ _ h2 (h4.2 q hp) (Or.inl rfl)⟩
          · exact Or.inr ⟨h1, A, B ++ q.2 ++ [-38], by rw [h2]; simp only [List.append_assoc], h3, C.2.2.2.2 _ _ _ h6 (h4.2 q hp) (Or.inl rfl)⟩
      · exact gP_r closed
theorem condG_P (C : clP P Q) {unit : Int → LR} (hx : ∀ a, 0 ≤ a → a ≤ n → okLR n a (unit a) ∧ gP Q (unit a)) (a : Int) (h0 : 0 ≤ a) (ha : a ≤ n) : gP Q (condG T n unit a) := by
  unfold condG
  have h4 := hx a h0 ha
  cases hp : unit a with
  | inl f => exact gP_l
  | inr q =>
    have h5 := h4.1.2 q hp
    exact moreL_P C hx 161 false q.1 q.2 (by omega) (by omega) (Or.inl ⟨rfl, h4.2 q hp⟩)
theorem pUnit_P (C : clP P Q) (hn : n ≤ 160) : ∀ (k : Nat) (a : Int), 0 ≤ a → a ≤ n → gP Q (pUnit T n k a) := by
  intro k
  induction k with
  | zero => intro a h0 ha; exact unitG_P C hn (fun h => absurd rfl h) (fun h => absurd rfl h) a h0 ha
  | succ k ih =>
    intro a h0 ha
    exact unitG_P C hn (fun _ b b0 b1 => condG_P C (fun d d0 d1 => ⟨pUnit_ok (T := T) hn k d d0 d1, ih d d0 d1⟩) b b0 b1) (fun _ b b0 b1 => ih b b0 b1) a h0 ha
theorem pCond_P (C : clP P Q) (hn : n ≤ 160) (k : Nat) (a : Int) (h0 : 0 ≤ a) (ha : a ≤ n) : gP Q (pCond T n k a) := condG_P C (fun d d0 d1 => ⟨pUnit_ok (T := T) hn k d d0 d1, pUnit_P C hn k d d0 d1⟩) a h0 ha
/-- of a clause: its condition (or none), its sum -/
def gC (P Q : List Int → Prop) (p : List Int × List Int) : Prop := (p.1 = [] ∨ Q p.1) ∧ P p.2
theorem sumS_P (C : clP P Q) (hn : n ≤ 160) {c : List Int} (hc : Q c) (a : Int) (h0 : 0 ≤ a) (ha : a ≤ n) : ∀ q, sumS T n a c = .inr q → gC P Q q.2 := by
  intro q hq
  have k1 := sk_in (T := T) ha
  unfold sumS at hq
  split at hq
  · have l1 : sk T n a < n := ch_lt (T := T) (by omega)
    have h4 := (pAS_P (T := T) C hn 6).2 (sk T n a + 1) (by omega) (by omega)
    cases hp : pSum T n 6 (sk T n a + 1) with
    | inl f => rw [hp] at hq; cases hq
    | inr r => rw [hp] at hq; cases hq; exact ⟨Or.inr hc, h4 r hp⟩
  · cases hq
theorem pLawS_P (C : clP P Q) (hn : n ≤ 160) (a : Int) (h0 : 0 ≤ a) (ha : a ≤ n) : ∀ q, pLawS T n a = .inr q → gC P Q q.2 := by
  intro q hq
  have k1 := sk_in (T := T) ha
  unfold pLawS at hq
  split at hq
  · have l1 : sk T n a < n := ch_lt (T := T) (by omega)
    have k2 := sk_in (T := T) (n := n) (a := sk T n a + 1) (by omega)
    split at hq
    · have l2 : sk T n (sk T n a + 1) < n := ch_lt (T := T) (by omega)
      have k3 := sk_in (T := T) (n := n) (a := sk T n (sk T n a + 1) + 1) (by omega)
      split at hq
      · have h4 := pCond_P (T := T) C hn 6 (sk T n (sk T n (sk T n a + 1) + 1)) (by omega) (by omega)
        have h5 := pCond_ok (T := T) hn 6 (sk T n (sk T n (sk T n a + 1) + 1)) (by omega) (by omega)
        cases hp : pCond T n 6 (sk T n (sk T n (sk T n a + 1) + 1)) with
        | inl f => rw [hp] at hq; cases hq
        | inr r =>
          rw [hp] at hq
          have h6 := h5.2 r hp
          exact sumS_P C hn (h4 r hp) r.1 (by omega) (by omega) q hq
      · have h4 := (pAS_P (T := T) C hn 6).2 (sk T n (sk T n (sk T n a + 1) + 1)) (by omega) (by omega)
        have h5 := (pAS_ok (T := T) hn 6).2 (sk T n (sk T n (sk T n a + 1) + 1)) (by omega) (by omega)
        cases hp : pSum T n 6 (sk T n (sk T n (sk T n a + 1) + 1)) with
        | inl f => rw [hp] at hq; cases hq
        | inr r =>
          rw [hp] at hq
          have h6 := h5.2 r hp
          have k4 := sk_in (T := T) h6.2.1
          dsimp only at hq
          split at hq
          · have h7 := cmpG_P (T := T) C hn 6 (sk T n r.1) (by omega) (by omega)
            have h8 := cmpG_ok (T := T) hn 6 (sk T n r.1) (by omega) (by omega)
            cases hr : cmpG T n 6 (sk T n r.1) with
            | inl f => rw [hr] at hq; cases hq
            | inr u =>
              rw [hr] at hq
              obtain ⟨b, t, e1, e2, e3⟩ := h7 u hr
              have h9 := h8.2 u hr
              have hQ : Q (r.2 ++ u.2) := by rw [e1]; exact C.2.2.1 _ _ _ (h4 r hp) e2 e3
              have h10 := moreL_P (T := T) C (fun d d0 d1 => ⟨pUnit_ok (T := T) hn 6 d d0 d1, pUnit_P C hn 6 d d0 d1⟩) 161 false u.1 (r.2 ++ u.2) (by omega) (by omega) (Or.inl ⟨rfl, hQ⟩)
              have h11 := moreL_ok (T := T) (pUnit_ok (T := T) hn 6) (show (0 : Int) ≤ sk T n a by omega) 161 false u.1 (r.2 ++ u.2) (by omega) h9.2.1 (by rw [List.length_append, if_neg (by decide)]; omega) (by rw [List.length_append]; omega) (ok_app h6.2.2.2.2 h9.2.2.2.2)
              dsimp only at hq
              cases hm : moreL T n (pUnit T n 6) 161 false u.1 (r.2 ++ u.2) with
              | inl f => rw [hm] at hq; cases hq
              | inr v =>
                rw [hm] at hq
                have h12 := h11.2 v hm
                exact sumS_P C hn (h10 v hm) v.1 (by omega) (by omega) q hq
          · cases hq
            exact ⟨Or.inl rfl, h4 r hp⟩
    · cases hq
  · cases hq
/-- of a law: each clause is built so -/
theorem pLawLS_P (C : clP P Q) (hn : n ≤ 160) : ∀ (f : Nat) (a : Int) (acc : List (List Int × List Int)), 0 ≤ a → a ≤ n → (∀ p ∈ acc, gC P Q p) → ∀ cs, pLawLS T n f a acc = .inr cs → ∀ p ∈ cs, gC P Q p := by
  intro f
  induction f with
  | zero => intro a acc h0 ha hacc cs h; cases h; exact hacc
  | succ f ih =>
    intro a acc h0 ha hacc cs h
    rw [pLawLS] at h
    cases hp : pLawS T n a with
    | inl e => rw [hp] at h; cases h
    | inr q =>
      rw [hp] at h
      obtain ⟨b, c, s⟩ := q
      have h1 := pLawS_in hn h0 ha hp
      have h2 := sk_in (T := T) h1.2.1
      have h3 := pLawS_P (T := T) C hn a h0 ha _ hp
      have h4 : ∀ p ∈ acc ++ [(c, s)], gC P Q p := fun p hm => (List.mem_append.mp hm).elim (hacc p) (fun hm => by rw [List.mem_singleton.mp hm]; exact h3)
      dsimp only at h
      split at h
      · cases h; exact h4
      · split at h
        · have : sk T n b < n := ch_lt (T := T) (by omega)
          exact ih _ _ (by omega) (by omega) h4 cs h
        · cases h
end PQ
