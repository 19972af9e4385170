/-! ANSWERS as functions of the state -/
def okZ (pl n ec : Int) (Fo Ho B0 Lt : Int → Int) : Prop := 0 ≤ pl ∧ pl ≤ 6 ∧ 1 ≤ n ∧ n ≤ 30 ∧ 0 ≤ ec ∧ ec ≤ 3 ∧ ∀ p, 0 ≤ p → p < pl → (-1 ≤ Fo p ∧ Fo p < pl) ∧ (0 ≤ Ho p ∧ Ho p ≤ 10) ∧ (1 ≤ B0 p ∧ B0 p ≤ 199) ∧ (0 ≤ Lt p ∧ Lt p ≤ 50)
theorem okZ.s {pl n ec : Int} {Fo Ho B0 Lt : Int → Int} (h : okZ pl n ec Fo Ho B0 Lt) (h1 : 1 ≤ pl) : okS pl n ec Fo Ho B0 Lt := ⟨h1, h.2⟩
theorem okS.z {pl n ec : Int} {Fo Ho B0 Lt : Int → Int} (h : okS pl n ec Fo Ho B0 Lt) : okZ pl n ec Fo Ho B0 Lt := ⟨by have := h.1; omega, h.2⟩
/-- the first place at which it is so; -1: nowhere -/
def fiN (P : Int → Bool) : Nat → Int
  | 0 => -1
  | n + 1 => if fiN P n = -1 ∧ P n = true then (n : Int) else fiN P n
def fiI (P : Int → Bool) (p : Int) : Int := fiN P p.toNat
theorem fiI_0 {P : Int → Bool} : fiI P 0 = -1 := rfl
theorem fiI_S {P : Int → Bool} {p : Int} (h : 0 ≤ p) : fiI P (p + 1) = if fiI P p = -1 ∧ P p = true then p else fiI P p := by
  unfold fiI
  rw [toNat_S h, fiN, toNat_c h]
theorem fiI_skip {P : Int → Bool} {p : Int} (h : 0 ≤ p) (h1 : fiI P p = -1) (h2 : P p = false) : fiI P (p + 1) = -1 := by
  rw [fiI_S h, h1, h2, if_neg (fun h => by cases h.2)]
theorem fiI_hit {P : Int → Bool} {b : Int} (hb : 0 ≤ b) (h1 : fiI P b = -1) (h2 : P b = true) : ∀ p, 0 ≤ p → b < p → fiI P p = b := by
  refine upI (fun h => by omega) (fun p hp ih h => ?_)
  rw [fiI_S hp]
  by_cases e : p = b
  · subst e
    rw [h1, h2, if_pos ⟨rfl, rfl⟩]
  · rw [ih (by omega), if_neg (by omega)]
theorem fiI_c {P R : Int → Bool} : ∀ p, 0 ≤ p → (∀ y, 0 ≤ y → y < p → P y = R y) → fiI P p = fiI R p := by
  refine upI (fun _ => rfl) (fun p hp ih h => ?_)
  rw [fiI_S hp, fiI_S hp, ih (fun y h0 h1 => h y h0 (by omega)), h p hp (by omega)]
theorem fsI_skip {g : Int → Int} {lim p : Int} (h : 0 ≤ p) (h1 : fsI g lim p = -1) (h2 : g p ≤ lim) : fsI g lim (p + 1) = -1 := by
  rw [fsI_S h, h1, if_neg (by omega)]
theorem fsI_hit {g : Int → Int} {lim b : Int} (hb : 0 ≤ b) (h1 : fsI g lim b = -1) (h2 : lim < g b) : ∀ p, 0 ≤ p → b < p → fsI g lim p = b := by
  refine upI (fun h => by omega) (fun p hp ih h => ?_)
  rw [fsI_S hp]
  by_cases e : p = b
  · subst e
    rw [h1, if_pos ⟨rfl, h2⟩]
  · rw [ih (by omega), if_neg (by omega)]
def cmI (x y : Int) : Int := if x < y then -1 else if x = y then 0 else 1
def rkI (g : Int → Int) (pl p : Int) : Int := smI (fun o => if g o < g p ∨ g p = g o ∧ o < p then 1 else 0) pl
def apI (g : Int → Int) (pl p : Int) : Int := smI (fun o => ((g o - g p).natAbs : Int)) pl
def ovI (g : Int → Int → Int) (i j n : Int) : Int := smI (fun b => if 1 ≤ b ∧ cmI (g b i) (g b j) ≠ 0 ∧ cmI (g b i) (g b j) ≠ cmI (g (b - 1) i) (g (b - 1) j) then 1 else 0) n
def srI (g : Int → Int → Int) (p q n : Int) : Int := fiI (fun b => decide (1 ≤ b ∧ q ≤ ((g b p - g (b - 1) p).natAbs : Int))) n
section AN
variable (pl n ec mk : Int) (Fo Ho B0 Lt : Int → Int)
def aTime (p b w : Int) : Int := if (0 ≤ p ∧ p < pl) ∧ (0 ≤ b ∧ b < n) ∧ (0 ≤ w ∧ w ≤ 2) then (if w = 0 then tS pl ec mk Fo Ho B0 Lt b p else if w = 1 then wS pl ec mk Fo Ho B0 Lt b p else bF ec Fo Ho B0 b p) else -1
def aSpread (b : Int) : Int := if 1 ≤ pl ∧ 0 ≤ b ∧ b < n then sS pl ec mk Fo Ho B0 Lt b else -1
def aWorst (w : Int) : Int := if 1 ≤ pl ∧ (w = 0 ∨ w = 1) then (if w = 0 then WO pl n ec mk Fo Ho B0 Lt else amI (sS pl ec mk Fo Ho B0 Lt) n) else -1
def aParts (lim : Int) : Int := if 1 ≤ pl then fsI (sS pl ec mk Fo Ho B0 Lt) lim n else -1
def aLast (b : Int) : Int := if 1 ≤ pl ∧ 0 ≤ b ∧ b < n then amI (tS pl ec mk Fo Ho B0 Lt b) pl else -1
def aPlace (b i : Int) : Int := if 1 ≤ pl ∧ 0 ≤ b ∧ b < n then fiI (fun p => decide (rkI (tS pl ec mk Fo Ho B0 Lt b) pl p = i)) pl else -1
def aOver (i j : Int) : Int := if (0 ≤ i ∧ i < pl) ∧ (0 ≤ j ∧ j < pl) ∧ i ≠ j then ovI (tS pl ec mk Fo Ho B0 Lt) i j n else -1
def aMiddle : Int := if 1 ≤ pl then amI (fun p => -apI (tS pl ec mk Fo Ho B0 Lt (n - 1)) pl p) pl else -1
def aEnds (w : Int) : Int := if 1 ≤ pl ∧ (w = 0 ∨ w = 1) then (if w = 0 then mxI (tS pl ec mk Fo Ho B0 Lt (n - 1)) pl else mxI (tS pl ec mk Fo Ho B0 Lt (n - 1)) pl - sS pl ec mk Fo Ho B0 Lt (n - 1)) else -1
def aStray (p q : Int) : Int := if (0 ≤ p ∧ p < pl) ∧ 1 ≤ q ∧ q ≤ 99 then srI (bF ec Fo Ho B0) p q n else -1
def aDeaf (p : Int) : Int := if 0 ≤ p ∧ p < pl then WO pl n ec mk (uZ Fo p (-1)) Ho B0 Lt else -1
/-- whom a player had best follow, among the first f: who, how much -/
def ldN (p : Int) : Nat → Int × Int
  | 0 => (-1, WO pl n ec mk (uZ Fo p (-1)) Ho B0 Lt)
  | f + 1 => if (f : Int) ≠ p ∧ WO pl n ec mk (uZ Fo p f) Ho B0 Lt < (ldN p f).2 then ((f : Int), WO pl n ec mk (uZ Fo p f) Ho B0 Lt) else ldN p f
def ldI (p f : Int) : Int × Int := ldN pl n ec mk Fo Ho B0 Lt p f.toNat
def aLeader (p w : Int) : Int := if (0 ≤ p ∧ p < pl) ∧ (w = 0 ∨ w = 1) then (if w = 0 then (ldI pl n ec mk Fo Ho B0 Lt p pl).1 else (ldI pl n ec mk Fo Ho B0 Lt p pl).2) else -1000000
/-- the best ECHO among the first e -/
def ehN : Nat → Int × Int
  | 0 => (0, WO pl n 0 mk Fo Ho B0 Lt)
  | e + 1 => if WO pl n ((e : Int) + 1) mk Fo Ho B0 Lt < (ehN e).2 then ((e : Int) + 1, WO pl n ((e : Int) + 1) mk Fo Ho B0 Lt) else ehN e
def aEchoes (w : Int) : Int := if 1 ≤ pl ∧ (w = 0 ∨ w = 1) then (if w = 0 then (ehN pl n mk Fo Ho B0 Lt 3).1 else (ehN pl n mk Fo Ho B0 Lt 3).2) else -1
/-- TUNE as a relation -/
def rTune (lim p w z : Int) : Prop := (¬ ((0 ≤ p ∧ p < pl) ∧ (w = 0 ∨ w = 1)) ∧ z = -1) ∨ ((0 ≤ p ∧ p < pl) ∧ (w = 0 ∨ w = 1) ∧ (((∀ h, 0 ≤ h → h ≤ 10 → lim < WO pl n ec mk Fo (uZ Ho p h) B0 Lt) ∧ z = -1) ∨ ∃ h, 0 ≤ h ∧ h ≤ 10 ∧ WO pl n ec mk Fo (uZ Ho p h) B0 Lt ≤ lim ∧ (∀ k, 0 ≤ k → k ≤ 10 → WO pl n ec mk Fo (uZ Ho p k) B0 Lt ≤ lim → (h - Ho p).natAbs < (k - Ho p).natAbs ∨ (h - Ho p).natAbs = (k - Ho p).natAbs ∧ h ≤ k) ∧ z = if w = 0 then h else WO pl n ec mk Fo (uZ Ho p h) B0 Lt))
/-- alone last at the end, late by v -/
def alL (p v : Int) : Prop := ∀ o, 0 ≤ o → o < pl → o ≠ p → tS pl ec mk Fo Ho B0 (uZ Lt p v) (n - 1) o < tS pl ec mk Fo Ho B0 (uZ Lt p v) (n - 1) p
def rPaid (p z : Int) : Prop := (¬ (0 ≤ p ∧ p < pl) ∧ z = -1) ∨ ((0 ≤ p ∧ p < pl) ∧ ((z = -1 ∧ ∀ v, 0 ≤ v → v ≤ 50 → ¬ alL pl n ec mk Fo Ho B0 Lt p v) ∨ (0 ≤ z ∧ z ≤ 50 ∧ alL pl n ec mk Fo Ho B0 Lt p z ∧ ∀ v, 0 ≤ v → v < z → ¬ alL pl n ec mk Fo Ho B0 Lt p v)))
/-- all of the roll is so -/
def agR (rl : Int) (P1 B1 T1 : Int → Int) (p f : Int) : Prop := ∀ k, 0 ≤ k → k < rl → B1 k < n ∧ wS pl ec mk (uZ Fo p f) Ho B0 Lt (B1 k) (P1 k) = T1 k
noncomputable def agB (rl : Int) (P1 B1 T1 : Int → Int) (p f : Int) : Bool := @decide (agR pl n ec mk Fo Ho B0 Lt rl P1 B1 T1 p f) (Classical.propDecidable _)
/-- whom it may have followed, among nobody and the first f -/
noncomputable def fiB (rl : Int) (P1 B1 T1 : Int → Int) (p : Int) : Nat → Int
  | 0 => if agB pl n ec mk Fo Ho B0 Lt rl P1 B1 T1 p (-1) = true then 64 else 0
  | f + 1 => if (f : Int) ≠ p ∧ agB pl n ec mk Fo Ho B0 Lt rl P1 B1 T1 p f = true then zOr (fiB rl P1 B1 T1 p f) (zShl 1 f) else fiB rl P1 B1 T1 p f
noncomputable def aFits (rl : Int) (P1 B1 T1 : Int → Int) (p : Int) : Int := if 0 ≤ p ∧ p < pl then fiB pl n ec mk Fo Ho B0 Lt rl P1 B1 T1 p pl.toNat else -1
end AN
/-- BEATS of two bars, and of the three bars ahead of each, are alike -/
def lkR (pl ec : Int) (Fo Ho B0 : Int → Int) (i j : Int) : Prop := ∀ k, 0 ≤ k → k < 4 → ∀ p, 0 ≤ p → p < pl → bF ec Fo Ho B0 (max 0 (i - k)) p = bF ec Fo Ho B0 (max 0 (j - k)) p
def rSettle (pl ec : Int) (Fo Ho B0 : Int → Int) (w z : Int) : Prop := (¬ (1 ≤ pl ∧ (w = 0 ∨ w = 1)) ∧ z = -1) ∨ (1 ≤ pl ∧ (w = 0 ∨ w = 1) ∧ (((∀ j, 1 ≤ j → j ≤ 200 → ∀ i, 0 ≤ i → i < j → ¬ lkR pl ec Fo Ho B0 i j) ∧ z = -1) ∨ ∃ j i, 1 ≤ j ∧ j ≤ 200 ∧ 0 ≤ i ∧ i < j ∧ lkR pl ec Fo Ho B0 i j ∧ (∀ j2, 1 ≤ j2 → j2 < j → ∀ i2, 0 ≤ i2 → i2 < j2 → ¬ lkR pl ec Fo Ho B0 i2 j2) ∧ (∀ i2, 0 ≤ i2 → i2 < i → ¬ lkR pl ec Fo Ho B0 i2 j) ∧ z = if w = 0 then i else j - i))
theorem rSettle_u {pl ec : Int} {Fo Ho B0 : Int → Int} {w z y : Int} (h : rSettle pl ec Fo Ho B0 w z) (g : rSettle pl ec Fo Ho B0 w y) : z = y := by
  rcases h with ⟨h1, h2⟩ | ⟨h1, h2, h3⟩ <;> rcases g with ⟨g1, g2⟩ | ⟨g1, g2, g3⟩
  · omega
  · exact absurd ⟨g1, g2⟩ h1
  · exact absurd ⟨h1, h2⟩ g1
  · rcases h3 with ⟨a1, a2⟩ | ⟨j, i, a1, a2, a3, a4, a5, a6, a7, a8⟩ <;> rcases g3 with ⟨b1, b2⟩ | ⟨j2, i2, b1, b2, b3, b4, b5, b6, b7, b8⟩
    · omega
    · exact absurd b5 (a1 j2 b1 b2 i2 b3 b4)
    · exact absurd a5 (b1 j a1 a2 i a3 a4)
    · have e1 : j = j2 := by
        rcases Int.lt_trichotomy j j2 with q | q | q
        · exact absurd a5 (b6 j a1 q i a3 a4)
        · exact q
        · exact absurd b5 (a6 j2 b1 q i2 b3 b4)
      subst e1
      have e2 : i = i2 := by
        rcases Int.lt_trichotomy i i2 with q | q | q
        · exact absurd a5 (b7 i a3 q)
        · exact q
        · exact absurd b5 (a7 i2 b3 q)
      rw [a8, b8, e2]
theorem rTune_u {pl n ec mk : Int} {Fo Ho B0 Lt : Int → Int} {lim p w z y : Int} (h : rTune pl n ec mk Fo Ho B0 Lt lim p w z) (g : rTune pl n ec mk Fo Ho B0 Lt lim p w y) : z = y := by
  rcases h with ⟨h1, h2⟩ | ⟨h1, h2, h3⟩ <;> rcases g with ⟨g1, g2⟩ | ⟨g1, g2, g3⟩
  · omega
  · exact absurd ⟨g1, g2⟩ h1
  · exact absurd ⟨h1, h2⟩ g1
  · rcases h3 with ⟨a1, a2⟩ | ⟨j, a1, a2, a3, a4, a5⟩ <;> rcases g3 with ⟨b1, b2⟩ | ⟨k, b1, b2, b3, b4, b5⟩
    · omega
    · have := a1 k b1 b2; omega
    · have := b1 j a1 a2; omega
    · have c1 := a4 k b1 b2 b3
      have c2 := b4 j a1 a2 a3
      have e : j = k := by omega
      subst e
      rw [a5, b5]
theorem rPaid_u {pl n ec mk : Int} {Fo Ho B0 Lt : Int → Int} {p z y : Int} (h : rPaid pl n ec mk Fo Ho B0 Lt p z) (g : rPaid pl n ec mk Fo Ho B0 Lt p y) : z = y := by
  rcases h with ⟨h1, h2⟩ | ⟨h1, h3⟩ <;> rcases g with ⟨g1, g2⟩ | ⟨g1, g3⟩
  · omega
  · exact absurd g1 h1
  · exact absurd h1 g1
  · rcases h3 with ⟨a1, a2⟩ | ⟨a1, a2, a3, a4⟩ <;> rcases g3 with ⟨b1, b2⟩ | ⟨b1, b2, b3, b4⟩
    · omega
    · exact absurd b3 (a2 y b1 b2)
    · exact absurd a3 (b2 z a1 a2)
    · rcases Int.lt_trichotomy z y with q | q | q
      · exact absurd a3 (b4 z a1 q)
      · exact q
      · exact absurd b3 (a4 y b1 q)
theorem ldI_0 {pl n ec mk p : Int} {Fo Ho B0 Lt : Int → Int} : ldI pl n ec mk Fo Ho B0 Lt p 0 = (-1, WO pl n ec mk (uZ Fo p (-1)) Ho B0 Lt) := rfl
theorem ldI_S {pl n ec mk p f : Int} {Fo Ho B0 Lt : Int → Int} (hf : 0 ≤ f) : ldI pl n ec mk Fo Ho B0 Lt p (f + 1) = if f ≠ p ∧ WO pl n ec mk (uZ Fo p f) Ho B0 Lt < (ldI pl n ec mk Fo Ho B0 Lt p f).2 then (f, WO pl n ec mk (uZ Fo p f) Ho B0 Lt) else ldI pl n ec mk Fo Ho B0 Lt p f := by
  unfold ldI
  rw [toNat_S hf, ldN, toNat_c hf]
/-- one column of the table of players changed -/
theorem c5_F {Q : Int → Int} {p v : Int} : c5 (uZ Q (5 * p + 3) v) 3 = uZ (c5 Q 3) p v := by
  funext x
  unfold c5 uZ
  by_cases h : x = p
  · rw [if_pos h, if_pos (by omega)]
  · rw [if_neg h, if_neg (by omega)]
theorem c5_H {Q : Int → Int} {p v : Int} : c5 (uZ Q (5 * p + 4) v) 4 = uZ (c5 Q 4) p v := by
  funext x
  unfold c5 uZ
  by_cases h : x = p
  · rw [if_pos h, if_pos (by omega)]
  · rw [if_neg h, if_neg (by omega)]
theorem c5_n {Q : Int → Int} {p v k j : Int} (h0 : 0 ≤ k ∧ k ≤ 4) (h1 : 0 ≤ j ∧ j ≤ 4) (h : k ≠ j) : c5 (uZ Q (5 * p + k) v) j = c5 Q j := by
  funext x
  unfold c5 uZ
  rw [if_neg (by omega)]
theorem uZ_back {α : Type} {f : Int → α} {k : Int} {v : α} : uZ (uZ f k v) k (f k) = f := by
  funext x
  unfold uZ
  by_cases h : x = k
  · rw [if_pos h, h]
  · rw [if_neg h, if_neg h]
theorem uZ_twice {α : Type} {f : Int → α} {k : Int} {v w : α} : uZ (uZ f k v) k w = uZ f k w := by
  funext x
  unfold uZ
  split <;> rfl
theorem okS.fo {pl n ec : Int} {Fo Ho B0 Lt : Int → Int} {p v : Int} (h : okS pl n ec Fo Ho B0 Lt) (hv : -1 ≤ v ∧ v < pl) : okS pl n ec (uZ Fo p v) Ho B0 Lt := by
  refine ⟨h.1, h.2.1, h.2.2.1, h.2.2.2.1, h.2.2.2.2.1, h.2.2.2.2.2.1, fun x h0 h1 => ?_⟩
  obtain ⟨a, b⟩ := h.2.2.2.2.2.2 x h0 h1
  refine ⟨?_, b⟩
  unfold uZ
  split <;> omega
theorem okS.ho {pl n ec : Int} {Fo Ho B0 Lt : Int → Int} {p v : Int} (h : okS pl n ec Fo Ho B0 Lt) (hv : 0 ≤ v ∧ v ≤ 10) : okS pl n ec Fo (uZ Ho p v) B0 Lt := by
  refine ⟨h.1, h.2.1, h.2.2.1, h.2.2.2.1, h.2.2.2.2.1, h.2.2.2.2.2.1, fun x h0 h1 => ?_⟩
  obtain ⟨a, b, c⟩ := h.2.2.2.2.2.2 x h0 h1
  refine ⟨a, ?_, c⟩
  unfold uZ
  split <;> omega
theorem okS.la {pl n ec : Int} {Fo Ho B0 Lt : Int → Int} {p v : Int} (h : okS pl n ec Fo Ho B0 Lt) (hv : 0 ≤ v ∧ v ≤ 50) : okS pl n ec Fo Ho B0 (uZ Lt p v) := by
  refine ⟨h.1, h.2.1, h.2.2.1, h.2.2.2.1, h.2.2.2.2.1, h.2.2.2.2.2.1, fun x h0 h1 => ?_⟩
  obtain ⟨a, b, c, d⟩ := h.2.2.2.2.2.2 x h0 h1
  refine ⟨a, b, c, ?_⟩
  unfold uZ
  split <;> omega
theorem okS.ec {pl n ec e2 : Int} {Fo Ho B0 Lt : Int → Int} (h : okS pl n ec Fo Ho B0 Lt) (hv : 0 ≤ e2 ∧ e2 ≤ 3) : okS pl n e2 Fo Ho B0 Lt := ⟨h.1, h.2.1, h.2.2.1, h.2.2.2.1, hv.1, hv.2, h.2.2.2.2.2.2⟩
theorem zOr_0 {x : Int} (h : inR x) : zOr x 0 = x := by
  unfold zOr
  have e : i32 0 = 0 := rfl
  rw [e, Int32.or_zero, i32_toInt h]
