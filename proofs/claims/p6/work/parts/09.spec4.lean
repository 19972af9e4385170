/-! The same readings as chains of chains: a row of parts joined by two signs, of which each sign stands behind its part -/
def loopL (T : Int → Int) (n u v : Int) (p : Int → LR) : Nat → Int → List Int → LR
  | 0, a, _ => .inl a
  | f + 1, a, acc =>
    if ch T n (sk T n a) = u ∨ ch T n (sk T n a) = v then
      match p (sk T n a + 1) with
      | .inl g => .inl g
      | .inr q => loopL T n u v p f q.1 (acc ++ q.2 ++ [-ch T n (sk T n a)])
    else .inr (sk T n a, acc)
def seqG (T : Int → Int) (n u v : Int) (p : Int → LR) (a : Int) : LR :=
  match p a with
  | .inl g => .inl g
  | .inr q => loopL T n u v p 161 q.1 q.2
def twoL (T : Int → Int) (n x y u v : Int) (p : Int → LR) : Nat → Int → Int → List Int → LR
  | 0, _, a, _ => .inl a
  | f + 1, w, a, acc =>
    if ch T n (sk T n a) = x ∨ ch T n (sk T n a) = y then
      match p (sk T n a + 1) with
      | .inl g => .inl g
      | .inr q => twoL T n x y u v p f (ch T n (sk T n a)) q.1 ((if w = 0 then acc else acc ++ [-w]) ++ q.2)
    else if ch T n (sk T n a) = u ∨ ch T n (sk T n a) = v then
      match p (sk T n a + 1) with
      | .inl g => .inl g
      | .inr q => twoL T n x y u v p f w q.1 (acc ++ q.2 ++ [-ch T n (sk T n a)])
    else .inr (sk T n a, if w = 0 then acc else acc ++ [-w])
def goesOn (n : Int) (p : Int → LR) : Prop := ∀ a, 0 ≤ a → a ≤ n → ∀ q, p a = .inr q → a < q.1 ∧ q.1 ≤ n
theorem twoL_fuel {T : Int → Int} {n x y u v : Int} {p : Int → LR} (hx : x ≠ 0 ∧ y ≠ 0 ∧ u ≠ 0 ∧ v ≠ 0) (hp : goesOn n p) : ∀ (f g : Nat) (w a : Int) (acc : List Int), 0 ≤ a → a ≤ n → n - a < f → n - a < g → twoL T n x y u v p f w a acc = twoL T n x y u v p g w a acc := by
  intro f
  induction f with
  | zero => intro g w a acc h0 ha hf hg; exfalso; omega
  | succ f ih =>
    intro g w a acc h0 ha hf hg
    obtain ⟨g, rfl⟩ : ∃ g' : Nat, g = g' + 1 := ⟨g - 1, by omega⟩
    have h1 := sk_in (T := T) ha
    unfold twoL
    split
    · next h2 =>
      have h3 : sk T n a < n := ch_lt (T := T) (by omega)
      cases hq : p (sk T n a + 1) with
      | inl e => rfl
      | inr q => have := hp _ (by omega) (by omega) q hq; exact ih g _ q.1 _ (by omega) (by omega) (by omega) (by omega)
    · split
      · next h2 =>
        have h3 : sk T n a < n := ch_lt (T := T) (by omega)
        cases hq : p (sk T n a + 1) with
        | inl e => rfl
        | inr q => have := hp _ (by omega) (by omega) q hq; exact ih g _ q.1 _ (by omega) (by omega) (by omega) (by omega)
      · rfl
theorem loopL_in {T : Int → Int} {n u v : Int} {p : Int → LR} (hx : u ≠ 0 ∧ v ≠ 0) (hp : goesOn n p) : ∀ (f : Nat) (a : Int) (acc : List Int) (q : Int × List Int), 0 ≤ a → a ≤ n → loopL T n u v p f a acc = .inr q → a ≤ q.1 ∧ q.1 ≤ n ∧ sk T n q.1 = q.1 ∧ ¬ (ch T n q.1 = u ∨ ch T n q.1 = v) := by
  intro f
  induction f with
  | zero => intro a acc q h0 ha h; unfold loopL at h; cases h
  | succ f ih =>
    intro a acc q h0 ha h
    have h1 := sk_in (T := T) ha
    unfold loopL at h
    split at h
    · next h2 =>
      have h3 : sk T n a < n := ch_lt (T := T) (by omega)
      cases hq : p (sk T n a + 1) with
      | inl e => rw [hq] at h; cases h
      | inr r => rw [hq] at h; have := hp _ (by omega) (by omega) r hq; have := ih r.1 _ q (by omega) (by omega) h; exact ⟨by omega, this.2⟩
    · next h2 => cases h; exact ⟨h1.1, h1.2, sk_idem, h2⟩
theorem two_low {T : Int → Int} {n x y u v : Int} {p : Int → LR} (hx : x ≠ 0 ∧ y ≠ 0 ∧ u ≠ 0 ∧ v ≠ 0) (hd : ¬ (u = x ∨ u = y ∨ v = x ∨ v = y)) (hp : goesOn n p) : ∀ (g f : Nat) (w a : Int) (A acc : List Int), 0 ≤ a → a ≤ n → n - a < f → n - a < g → twoL T n x y u v p f w a (A ++ acc) = (match loopL T n u v p g a acc with | .inl e => .inl e | .inr q => twoL T n x y u v p f w q.1 (A ++ q.2)) := by
  intro g
  induction g with
  | zero => intro f w a A acc h0 ha hf hg; exfalso; omega
  | succ g ih =>
    intro f w a A acc h0 ha hf hg
    obtain ⟨f, rfl⟩ : ∃ f' : Nat, f = f' + 1 := ⟨f - 1, by omega⟩
    have h1 := sk_in (T := T) ha
    by_cases h2 : ch T n (sk T n a) = u ∨ ch T n (sk T n a) = v
    · have h3 : sk T n a < n := ch_lt (T := T) (by omega)
      rw [loopL, if_pos h2]
      cases hq : p (sk T n a + 1) with
      | inl e => rw [twoL, if_neg (by omega), if_pos h2, hq]
      | inr q =>
        have h4 := hp _ (by omega) (by omega) q hq
        have h5 : twoL T n x y u v p (f + 1) w a (A ++ acc) = twoL T n x y u v p f w q.1 (A ++ (acc ++ q.2 ++ [-ch T n (sk T n a)])) := by
          rw [twoL, if_neg (by omega), if_pos h2, hq]
          simp only [List.append_assoc]
        rw [h5, ih f w q.1 A _ (by omega) (by omega) (by omega) (by omega)]
        show _ = (match loopL T n u v p g q.1 (acc ++ q.2 ++ [-ch T n (sk T n a)]) with | .inl e => (.inl e : LR) | .inr q => twoL T n x y u v p (f + 1) w q.1 (A ++ q.2))
        cases hl : loopL T n u v p g q.1 (acc ++ q.2 ++ [-ch T n (sk T n a)]) with
        | inl e => rfl
        | inr r => have h6 := loopL_in ⟨hx.2.2.1, hx.2.2.2⟩ hp _ _ _ r (by omega) (by omega) hl; exact twoL_fuel hx hp _ _ _ _ _ (by omega) (by omega) (by omega) (by omega)
    · rw [loopL, if_neg h2]
      show _ = twoL T n x y u v p (f + 1) w (sk T n a) (A ++ acc)
      rw [twoL, twoL]
      simp only [sk_idem]
theorem two_high {T : Int → Int} {n x y u v : Int} {p : Int → LR} (hn : n ≤ 160) (hx : x ≠ 0 ∧ y ≠ 0 ∧ u ≠ 0 ∧ v ≠ 0) (hd : ¬ (u = x ∨ u = y ∨ v = x ∨ v = y)) (hp : goesOn n p) : ∀ (g f : Nat) (w a : Int) (acc : List Int), 0 ≤ a → a ≤ n → n - a < f → n - a < g → ¬ (ch T n (sk T n a) = u ∨ ch T n (sk T n a) = v) → twoL T n x y u v p f w a acc = loopL T n x y (seqG T n u v p) g a (if w = 0 then acc else acc ++ [-w]) := by
  intro g
  induction g with
  | zero => intro f w a acc h0 ha hf hg; exfalso; omega
  | succ g ih =>
    intro f w a acc h0 ha hf hg h2
    obtain ⟨f, rfl⟩ : ∃ f' : Nat, f = f' + 1 := ⟨f - 1, by omega⟩
    have h1 := sk_in (T := T) ha
    rw [twoL, loopL]
    by_cases h3 : ch T n (sk T n a) = x ∨ ch T n (sk T n a) = y
    · have h4 : sk T n a < n := ch_lt (T := T) (by omega)
      rw [if_pos h3, if_pos h3]
      have hs : seqG T n u v p (sk T n a + 1) = (match p (sk T n a + 1) with | .inl g => .inl g | .inr q => loopL T n u v p 161 q.1 q.2) := rfl
      cases hq : p (sk T n a + 1) with
      | inl e => rw [hs, hq]
      | inr q =>
        have h5 := hp _ (by omega) (by omega) q hq
        rw [hs, hq]
        show twoL T n x y u v p f (ch T n (sk T n a)) q.1 ((if w = 0 then acc else acc ++ [-w]) ++ q.2) = (match loopL T n u v p 161 q.1 q.2 with | .inl g => .inl g | .inr r => loopL T n x y (seqG T n u v p) g r.1 ((if w = 0 then acc else acc ++ [-w]) ++ r.2 ++ [-ch T n (sk T n a)]))
        rw [two_low hx hd hp 161 f _ q.1 _ q.2 (by omega) (by omega) (by omega) (by omega)]
        cases hl : loopL T n u v p 161 q.1 q.2 with
        | inl e => rfl
        | inr r =>
          have h6 := loopL_in ⟨hx.2.2.1, hx.2.2.2⟩ hp _ _ _ r (by omega) (by omega) hl
          show twoL T n x y u v p f (ch T n (sk T n a)) r.1 ((if w = 0 then acc else acc ++ [-w]) ++ r.2) = _
          rw [ih f _ r.1 _ (by omega) (by omega) (by omega) (by omega) (by rw [h6.2.2.1]; exact h6.2.2.2), if_neg (show ¬ ch T n (sk T n a) = 0 by omega)]
    · rw [if_neg h3, if_neg h2, if_neg h3]
theorem two_all {T : Int → Int} {n x y u v : Int} {p : Int → LR} (hn : n ≤ 160) (hx : x ≠ 0 ∧ y ≠ 0 ∧ u ≠ 0 ∧ v ≠ 0) (hd : ¬ (u = x ∨ u = y ∨ v = x ∨ v = y)) (hp : goesOn n p) (a b : Int) (acc : List Int) (ha : 0 ≤ a) (hb : 0 ≤ b ∧ b ≤ n) : twoL T n x y u v p 161 0 b acc = (match loopL T n u v p 161 b acc with | .inl e => .inl e | .inr q => loopL T n x y (seqG T n u v p) 161 q.1 q.2) := by
  have h := two_low (T := T) hx hd hp 161 161 0 b [] acc hb.1 hb.2 (by omega) (by omega)
  rw [List.nil_append] at h
  rw [h]
  cases hl : loopL T n u v p 161 b acc with
  | inl e => rfl
  | inr r =>
    have h6 := loopL_in ⟨hx.2.2.1, hx.2.2.2⟩ hp _ _ _ r (by omega) (by omega) hl
    show twoL T n x y u v p 161 0 r.1 ([] ++ r.2) = _
    rw [List.nil_append, two_high hn hx hd hp 161 161 0 r.1 r.2 (by omega) (by omega) (by omega) (by omega) (by rw [h6.2.2.1]; exact h6.2.2.2), if_pos rfl]
theorem sum_two (T : Int → Int) (n : Int) (p : Int → LR) : ∀ (f : Nat) (w a : Int) (acc : List Int), sumL T n p f w a acc = twoL T n 43 45 42 47 p f w a acc := by
  intro f
  induction f with
  | zero => intro w a acc; rfl
  | succ f ih =>
    intro w a acc
    rw [sumL, twoL]
    split
    · cases p (sk T n a + 1) with
      | inl e => rfl
      | inr q => exact ih _ _ _
    · split
      · cases p (sk T n a + 1) with
        | inl e => rfl
        | inr q => exact ih _ _ _
      · rfl
theorem more_two (T : Int → Int) (n : Int) (p : Int → LR) : ∀ (f : Nat) (w : Bool) (a : Int) (acc : List Int), moreL T n p f w a acc = twoL T n 124 124 38 38 p f (if w then 124 else 0) a acc := by
  intro f
  induction f with
  | zero => intro w a acc; rfl
  | succ f ih =>
    intro w a acc
    have e : (if w then acc ++ [-124] else acc) = (if (if w then (124 : Int) else 0) = 0 then acc else acc ++ [-(if w then (124 : Int) else 0)]) := by cases w <;> rfl
    rw [moreL, twoL]
    by_cases h : ch T n (sk T n a) = 124
    · rw [if_pos h, if_pos (Or.inl h)]
      cases p (sk T n a + 1) with
      | inl e => rfl
      | inr q => exact (ih _ _ _).trans (by rw [h, ← e]; rfl)
    · rw [if_neg h, if_neg (show ¬ (ch T n (sk T n a) = 124 ∨ ch T n (sk T n a) = 124) from fun q => q.elim h h)]
      by_cases h2 : ch T n (sk T n a) = 38
      · rw [if_pos h2, if_pos (Or.inl h2)]
        cases p (sk T n a + 1) with
        | inl e => rfl
        | inr q => exact (ih _ _ _).trans (by rw [h2])
      · rw [if_neg h2, if_neg (show ¬ (ch T n (sk T n a) = 38 ∨ ch T n (sk T n a) = 38) from fun q => q.elim h2 h2), ← e]
theorem okLR_go {n : Int} {p : Int → LR} (h : ∀ a, 0 ≤ a → a ≤ n → okLR n a (p a)) : goesOn n p := fun a h0 ha q hq => by have := (h a h0 ha).2 q hq; omega
def pTerm (T : Int → Int) (n : Int) (k : Nat) : Int → LR := seqG T n 42 47 (pAtom T n k)
def pCj (T : Int → Int) (n : Int) (k : Nat) : Int → LR := seqG T n 38 38 (pUnit T n k)
theorem pSum_T {T : Int → Int} {n : Int} (hn : n ≤ 160) (k : Nat) (a : Int) (h0 : 0 ≤ a) (ha : a ≤ n) : pSum T n k a = seqG T n 43 45 (pTerm T n k) a := by
  have hg := okLR_go (pAS_ok (T := T) hn k).1
  rw [pSum_eq]
  unfold sumG
  have hs : seqG T n 43 45 (pTerm T n k) a = (match (match pAtom T n k a with | .inl g => (.inl g : LR) | .inr q => loopL T n 42 47 (pAtom T n k) 161 q.1 q.2) with | .inl g => .inl g | .inr q => loopL T n 43 45 (pTerm T n k) 161 q.1 q.2) := rfl
  rw [hs]
  cases hp : pAtom T n k a with
  | inl e => rfl
  | inr q => have := hg a h0 ha q hp; exact (sum_two _ _ _ _ _ _ _).trans (two_all hn (by decide) (by decide) hg a q.1 q.2 h0 (by omega))
theorem pMore_C {T : Int → Int} {n : Int} (hn : n ≤ 160) (k : Nat) (a : Int) (acc : List Int) (h0 : 0 ≤ a) (ha : a ≤ n) : moreL T n (pUnit T n k) 161 false a acc = (match loopL T n 38 38 (pUnit T n k) 161 a acc with | .inl e => .inl e | .inr q => loopL T n 124 124 (pCj T n k) 161 q.1 q.2) :=
  (more_two _ _ _ _ _ _ _).trans (two_all hn (by decide) (by decide) (okLR_go (pUnit_ok hn k)) a a acc h0 (by omega))
theorem loopL_s {T : Int → Int} {n u v a b : Int} {p : Int → LR} {f : Nat} {acc ts : List Int} (h : ch T n (sk T n a) = u ∨ ch T n (sk T n a) = v) (h2 : p (sk T n a + 1) = .inr (b, ts)) : loopL T n u v p (f + 1) a acc = loopL T n u v p f b (acc ++ ts ++ [-ch T n (sk T n a)]) := by rw [loopL, if_pos h, h2]
theorem loopL_f {T : Int → Int} {n u v a e : Int} {p : Int → LR} {f : Nat} {acc : List Int} (h : ch T n (sk T n a) = u ∨ ch T n (sk T n a) = v) (h2 : p (sk T n a + 1) = .inl e) : loopL T n u v p (f + 1) a acc = .inl e := by rw [loopL, if_pos h, h2]
theorem loopL_e {T : Int → Int} {n u v a : Int} {p : Int → LR} {f : Nat} {acc : List Int} (h : ¬ (ch T n (sk T n a) = u ∨ ch T n (sk T n a) = v)) : loopL T n u v p (f + 1) a acc = .inr (sk T n a, acc) := by rw [loopL, if_neg h]
theorem seqG_f {T : Int → Int} {n u v a e : Int} {p : Int → LR} (h : p a = .inl e) : seqG T n u v p a = .inl e := by unfold seqG; rw [h]
theorem seqG_r {T : Int → Int} {n u v a b : Int} {p : Int → LR} {ts : List Int} (h : p a = .inr (b, ts)) : seqG T n u v p a = loopL T n u v p 161 b ts := by unfold seqG; rw [h]
theorem loopL_ok {T : Int → Int} {n u v a0 : Int} {p : Int → LR} (huv : u ≠ 0 ∧ v ≠ 0 ∧ -200 ≤ -u ∧ -u ≤ 9999 ∧ -200 ≤ -v ∧ -v ≤ 9999) (hx : ∀ a, 0 ≤ a → a ≤ n → okLR n a (p a)) (h00 : 0 ≤ a0) : ∀ (f : Nat) (a : Int) (acc : List Int), a0 < a → a ≤ n → (acc.length : Int) ≤ a - a0 → 0 < acc.length → (∀ t ∈ acc, -200 ≤ t ∧ t ≤ 9999) → okLR n a0 (loopL T n u v p f a acc) := by
  intro f
  induction f with
  | zero => intro a acc h1 h2 h3 h4 h5; unfold loopL; exact okLR_l ⟨by omega, by omega⟩
  | succ f ih =>
    intro a acc h1 h2 h3 h4 h5
    have h6 := sk_in (T := T) h2
    unfold loopL
    split
    · next h7 =>
      have h8 : sk T n a < n := ch_lt (T := T) (by omega)
      have h9 := hx (sk T n a + 1) (by omega) (by omega)
      cases hq : p (sk T n a + 1) with
      | inl e => exact okLR_l (h9.1 e hq)
      | inr q =>
        have h10 := h9.2 q hq
        exact ih q.1 _ (by omega) h10.2.1 (by simp only [List.length_append, List.length_singleton, Int.natCast_add, Int.natCast_one]; omega) (by rw [List.length_append]; exact Nat.lt_of_lt_of_le (Nat.succ_pos 0) (Nat.le_add_left _ _)) (ok_app (ok_app h5 h10.2.2.2.2) (ok_one (by omega)))
    · exact okLR_r ⟨by omega, by omega, by show (acc.length : Int) ≤ _; omega, h4, h5⟩
theorem seqG_ok {T : Int → Int} {n u v : Int} {p : Int → LR} (huv : u ≠ 0 ∧ v ≠ 0 ∧ -200 ≤ -u ∧ -u ≤ 9999 ∧ -200 ≤ -v ∧ -v ≤ 9999) (hx : ∀ a, 0 ≤ a → a ≤ n → okLR n a (p a)) (a : Int) (h0 : 0 ≤ a) (ha : a ≤ n) : okLR n a (seqG T n u v p a) := by
  unfold seqG
  have h9 := hx a h0 ha
  cases hq : p a with
  | inl e => exact okLR_l (h9.1 e hq)
  | inr q => have h10 := h9.2 q hq; exact loopL_ok huv hx h0 161 q.1 q.2 (by omega) h10.2.1 h10.2.2.1 h10.2.2.2.1 h10.2.2.2.2
theorem pTerm_ok {T : Int → Int} {n : Int} (hn : n ≤ 160) (k : Nat) (a : Int) (h0 : 0 ≤ a) (ha : a ≤ n) : okLR n a (pTerm T n k a) := seqG_ok (by decide) (pAS_ok hn k).1 a h0 ha
theorem pCj_ok {T : Int → Int} {n : Int} (hn : n ≤ 160) (k : Nat) (a : Int) (h0 : 0 ≤ a) (ha : a ≤ n) : okLR n a (pCj T n k a) := seqG_ok (by decide) (pUnit_ok hn k) a h0 ha
