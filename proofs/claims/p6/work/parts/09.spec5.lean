/-! A law's text in parts: each clause its condition and its sum -/
abbrev LSR : Type := Int ⊕ (Int × List Int × List Int)
def sumS (T : Int → Int) (n a : Int) (c : List Int) : LSR :=
  if ch T n (sk T n a) = 63 then
    match pSum T n 6 (sk T n a + 1) with
    | .inl f => .inl f
    | .inr q => .inr (q.1, c, q.2)
  else .inl (sk T n a)
def pLawS (T : Int → Int) (n a : Int) : LSR :=
  if ch T n (sk T n a) = 121 then
    if ch T n (sk T n (sk T n a + 1)) = 58 then
      if ch T n (sk T n (sk T n (sk T n a + 1) + 1)) = 33 ∨ ch T n (sk T n (sk T n (sk T n a + 1) + 1)) = 40 then
        match pCond T n 6 (sk T n (sk T n (sk T n a + 1) + 1)) with
        | .inl f => .inl f
        | .inr q => sumS T n q.1 q.2
      else
        match pSum T n 6 (sk T n (sk T n (sk T n a + 1) + 1)) with
        | .inl f => .inl f
        | .inr q =>
          if ch T n (sk T n q.1) = 61 ∨ ch T n (sk T n q.1) = 60 ∨ ch T n (sk T n q.1) = 62 then
            match cmpG T n 6 (sk T n q.1) with
            | .inl f => .inl f
            | .inr r =>
              match moreL T n (pUnit T n 6) 161 false r.1 (q.2 ++ r.2) with
              | .inl f => .inl f
              | .inr t => sumS T n t.1 t.2
          else .inr (sk T n q.1, [], q.2)
    else .inl (sk T n (sk T n a + 1))
  else .inl (sk T n a)
def joinC (c s : List Int) : List Int := (if c = [] then [] else c ++ [-63]) ++ s ++ [-59]
def toC : LSR → LR
  | .inl f => .inl f
  | .inr q => .inr (q.1, joinC q.2.1 q.2.2)
theorem sumB_S {T : Int → Int} {n a : Int} {c : List Int} (h : 0 < c.length) : sumB T n a c = toC (sumS T n a c) := by
  have hc : c ≠ [] := fun e => by rw [e] at h; exact absurd h (by decide)
  unfold sumB sumS
  split
  · cases pSum T n 6 (sk T n a + 1) with
    | inl f => rfl
    | inr q => show (Sum.inr (q.1, c ++ [-63] ++ q.2 ++ [-59]) : LR) = Sum.inr (q.1, joinC c q.2); unfold joinC; rw [if_neg hc]
  · rfl
theorem pLawC_S {T : Int → Int} {n a : Int} (hn : n ≤ 160) (h0 : 0 ≤ a) (ha : a ≤ n) : pLawC T n a = toC (pLawS T n a) := by
  have k1 := sk_in (T := T) ha
  unfold pLawC pLawS
  by_cases c1 : ch T n (sk T n a) = 121
  · rw [if_pos c1, if_pos c1]
    have l1 : sk T n a < n := ch_lt (T := T) (by omega)
    have k2 := sk_in (T := T) (n := n) (a := sk T n a + 1) (by omega)
    by_cases c2 : ch T n (sk T n (sk T n a + 1)) = 58
    · rw [if_pos c2, if_pos c2]
      have l2 : sk T n (sk T n a + 1) < n := ch_lt (T := T) (by omega)
      have k3 := sk_in (T := T) (n := n) (a := sk T n (sk T n a + 1) + 1) (by omega)
      by_cases c3 : ch T n (sk T n (sk T n (sk T n a + 1) + 1)) = 33 ∨ ch T n (sk T n (sk T n (sk T n a + 1) + 1)) = 40
      · rw [if_pos c3, if_pos c3]
        have h4 := pCond_ok (T := T) hn 6 (sk T n (sk T n (sk T n a + 1) + 1)) (by omega) (by omega)
        cases hp : pCond T n 6 (sk T n (sk T n (sk T n a + 1) + 1)) with
        | inl f => rfl
        | inr q => exact sumB_S (h4.2 q hp).2.2.2.1
      · rw [if_neg c3, if_neg c3]
        have h4 := (pAS_ok (T := T) hn 6).2 (sk T n (sk T n (sk T n a + 1) + 1)) (by omega) (by omega)
        cases hp : pSum T n 6 (sk T n (sk T n (sk T n a + 1) + 1)) with
        | inl f => rfl
        | inr q =>
          have h5 := h4.2 q hp
          have k4 := sk_in (T := T) h5.2.1
          show (if ch T n (sk T n q.1) = 61 ∨ ch T n (sk T n q.1) = 60 ∨ ch T n (sk T n q.1) = 62 then
              (match cmpG T n 6 (sk T n q.1) with
              | .inl f => (.inl f : LR)
              | .inr r =>
                match moreL T n (pUnit T n 6) 161 false r.1 (q.2 ++ r.2) with
                | .inl f => .inl f
                | .inr t => sumB T n t.1 t.2)
            else .inr (sk T n q.1, q.2 ++ [-59])) = toC (if ch T n (sk T n q.1) = 61 ∨ ch T n (sk T n q.1) = 60 ∨ ch T n (sk T n q.1) = 62 then
              (match cmpG T n 6 (sk T n q.1) with
              | .inl f => (.inl f : LSR)
              | .inr r =>
                match moreL T n (pUnit T n 6) 161 false r.1 (q.2 ++ r.2) with
                | .inl f => .inl f
                | .inr t => sumS T n t.1 t.2)
            else .inr (sk T n q.1, [], q.2))
          by_cases c4 : ch T n (sk T n q.1) = 61 ∨ ch T n (sk T n q.1) = 60 ∨ ch T n (sk T n q.1) = 62
          · rw [if_pos c4, if_pos c4]
            have h6 := cmpG_ok (T := T) hn 6 (sk T n q.1) (by omega) (by omega)
            cases hr : cmpG T n 6 (sk T n q.1) with
            | inl f => rfl
            | inr r =>
              have h7 := h6.2 r hr
              show (match moreL T n (pUnit T n 6) 161 false r.1 (q.2 ++ r.2) with
                | .inl f => (.inl f : LR)
                | .inr t => sumB T n t.1 t.2) = toC (match moreL T n (pUnit T n 6) 161 false r.1 (q.2 ++ r.2) with
                | .inl f => (.inl f : LSR)
                | .inr t => sumS T n t.1 t.2)
              have h8 := moreL_ok (T := T) (pUnit_ok (T := T) hn 6) (show (0 : Int) ≤ sk T n a by omega) 161 false r.1 (q.2 ++ r.2) (by omega) h7.2.1 (by rw [List.length_append, if_neg (by decide)]; omega) (by rw [List.length_append]; omega) (ok_app h5.2.2.2.2 h7.2.2.2.2)
              cases hm : moreL T n (pUnit T n 6) 161 false r.1 (q.2 ++ r.2) with
              | inl f => rfl
              | inr t => exact sumB_S (h8.2 t hm).2.2.2.1
          · rw [if_neg c4, if_neg c4]
            show (Sum.inr (sk T n q.1, q.2 ++ [-59]) : LR) = Sum.inr (sk T n q.1, joinC [] q.2)
            unfold joinC
            rw [if_pos rfl, List.nil_append]
    · rw [if_neg c2, if_neg c2]; rfl
  · rw [if_neg c1, if_neg c1]; rfl
def pLawLS (T : Int → Int) (n : Int) : Nat → Int → List (List Int × List Int) → Int ⊕ List (List Int × List Int)
  | 0, _, acc => .inr acc
  | k + 1, a, acc =>
    match pLawS T n a with
    | .inl f => .inl f
    | .inr q =>
      if ch T n (sk T n q.1) = 0 then .inr (acc ++ [q.2])
      else if ch T n (sk T n q.1) = 59 then pLawLS T n k (sk T n q.1 + 1) (acc ++ [q.2])
      else .inl (sk T n q.1)
def flatLaw (l : List (List Int × List Int)) : List Int := l.flatMap (fun p => joinC p.1 p.2)
def codesOf (l : List (List Int × List Int)) : List Int := l.flatMap (fun p => p.1 ++ p.2)
theorem flatLaw_one {l : List (List Int × List Int)} {p : List Int × List Int} : flatLaw (l ++ [p]) = flatLaw l ++ joinC p.1 p.2 := by
  unfold flatLaw; rw [List.flatMap_append]; simp
theorem codesOf_one {l : List (List Int × List Int)} {p : List Int × List Int} : codesOf (l ++ [p]) = codesOf l ++ (p.1 ++ p.2) := by
  unfold codesOf; rw [List.flatMap_append]; simp
def lpr : LR → Int ⊕ List Int
  | .inl f => .inl f
  | .inr q => .inr q.2
def lps : (Int ⊕ List (List Int × List Int)) → Int ⊕ List Int
  | .inl f => .inl f
  | .inr l => .inr (flatLaw l)
/-- where the parts of each clause begin and end -/
def tfOf (k : Int) : List (List Int × List Int) → List Int
  | [] => []
  | p :: r => k :: tfOf (k + p.1.length + p.2.length) r
def sfOf (k : Int) : List (List Int × List Int) → List Int
  | [] => []
  | p :: r => (k + p.1.length) :: sfOf (k + p.1.length + p.2.length) r
def stOf (k : Int) : List (List Int × List Int) → List Int
  | [] => []
  | p :: r => (k + p.1.length + p.2.length) :: stOf (k + p.1.length + p.2.length) r
theorem codesOf_c {l : List (List Int × List Int)} {p : List Int × List Int} : ((codesOf (p :: l)).length : Int) = p.1.length + p.2.length + (codesOf l).length := by
  unfold codesOf; rw [List.flatMap_cons, List.length_append, List.length_append]; omega
theorem tfOf_one {l : List (List Int × List Int)} {p : List Int × List Int} : ∀ (k : Int), tfOf k (l ++ [p]) = tfOf k l ++ [k + (codesOf l).length] := by
  induction l with
  | nil => intro k; show [k] = [k + ((0 : Nat) : Int)]; rw [show k + ((0 : Nat) : Int) = k by omega]
  | cons q l ih => intro k; show k :: tfOf _ (l ++ [p]) = k :: (tfOf _ l ++ [_]); rw [ih, codesOf_c]; congr 3; omega
theorem sfOf_one {l : List (List Int × List Int)} {p : List Int × List Int} : ∀ (k : Int), sfOf k (l ++ [p]) = sfOf k l ++ [k + (codesOf l).length + p.1.length] := by
  induction l with
  | nil => intro k; show [k + (p.1.length : Int)] = [k + ((0 : Nat) : Int) + (p.1.length : Int)]; rw [show k + ((0 : Nat) : Int) = k by omega]
  | cons q l ih => intro k; show _ :: sfOf _ (l ++ [p]) = _ :: (sfOf _ l ++ [_]); rw [ih, codesOf_c]; congr 3; omega
theorem stOf_one {l : List (List Int × List Int)} {p : List Int × List Int} : ∀ (k : Int), stOf k (l ++ [p]) = stOf k l ++ [k + (codesOf l).length + p.1.length + p.2.length] := by
  induction l with
  | nil => intro k; show [k + (p.1.length : Int) + (p.2.length : Int)] = [k + ((0 : Nat) : Int) + (p.1.length : Int) + (p.2.length : Int)]; rw [show k + ((0 : Nat) : Int) = k by omega]
  | cons q l ih => intro k; show _ :: stOf _ (l ++ [p]) = _ :: (stOf _ l ++ [_]); rw [ih, codesOf_c]; congr 3; omega
theorem tfOf_len {l : List (List Int × List Int)} : ∀ (k : Int), (tfOf k l).length = l.length ∧ (sfOf k l).length = l.length ∧ (stOf k l).length = l.length := by
  induction l with
  | nil => intro k; exact ⟨rfl, rfl, rfl⟩
  | cons q l ih => intro k; have h := ih (k + q.1.length + q.2.length); exact ⟨congrArg Nat.succ h.1, congrArg Nat.succ h.2.1, congrArg Nat.succ h.2.2⟩
