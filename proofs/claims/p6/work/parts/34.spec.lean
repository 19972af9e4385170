/-! THE PIECE: least, greatest, first greatest of a row; BEATS, TIMES, SPREADS, WORST as functions -/
def mxN (g : Int → Int) : Nat → Int
  | 0 => 0
  | n + 1 => max (mxN g n) (g n)
def mnN (g : Int → Int) : Nat → Int
  | 0 => 1000000000
  | n + 1 => min (mnN g n) (g n)
def amN (g : Int → Int) : Nat → Int
  | 0 => 0
  | n + 1 => if g (amN g n) < g n then (n : Int) else amN g n
def fsN (g : Int → Int) (lim : Int) : Nat → Int
  | 0 => -1
  | n + 1 => if fsN g lim n = -1 ∧ lim < g n then (n : Int) else fsN g lim n
def smN (g : Int → Int) : Nat → Int
  | 0 => 0
  | n + 1 => smN g n + g n
def mxI (g : Int → Int) (p : Int) : Int := mxN g p.toNat
def mnI (g : Int → Int) (p : Int) : Int := mnN g p.toNat
def amI (g : Int → Int) (p : Int) : Int := amN g p.toNat
def fsI (g : Int → Int) (lim p : Int) : Int := fsN g lim p.toNat
def smI (g : Int → Int) (p : Int) : Int := smN g p.toNat
theorem toNat_S {p : Int} (h : 0 ≤ p) : (p + 1).toNat = p.toNat + 1 := by omega
theorem toNat_c {p : Int} (h : 0 ≤ p) : ((p.toNat : Nat) : Int) = p := by omega
theorem mxI_0 {g : Int → Int} : mxI g 0 = 0 := rfl
theorem mnI_0 {g : Int → Int} : mnI g 0 = 1000000000 := rfl
theorem amI_0 {g : Int → Int} : amI g 0 = 0 := rfl
theorem fsI_0 {g : Int → Int} {lim : Int} : fsI g lim 0 = -1 := rfl
theorem smI_0 {g : Int → Int} : smI g 0 = 0 := rfl
theorem mxI_S {g : Int → Int} {p : Int} (h : 0 ≤ p) : mxI g (p + 1) = max (mxI g p) (g p) := by
  unfold mxI
  rw [toNat_S h, mxN, toNat_c h]
theorem mnI_S {g : Int → Int} {p : Int} (h : 0 ≤ p) : mnI g (p + 1) = min (mnI g p) (g p) := by
  unfold mnI
  rw [toNat_S h, mnN, toNat_c h]
theorem amI_S {g : Int → Int} {p : Int} (h : 0 ≤ p) : amI g (p + 1) = if g (amI g p) < g p then p else amI g p := by
  unfold amI
  rw [toNat_S h, amN, toNat_c h]
theorem fsI_S {g : Int → Int} {lim p : Int} (h : 0 ≤ p) : fsI g lim (p + 1) = if fsI g lim p = -1 ∧ lim < g p then p else fsI g lim p := by
  unfold fsI
  rw [toNat_S h, fsN, toNat_c h]
theorem smI_S {g : Int → Int} {p : Int} (h : 0 ≤ p) : smI g (p + 1) = smI g p + g p := by
  unfold smI
  rw [toNat_S h, smN, toNat_c h]
theorem amI_1 {g : Int → Int} : amI g 1 = 0 := by
  have h := amI_S (g := g) (p := 0) (Int.le_refl _)
  rw [amI_0] at h
  simpa using h
/-- induction over whole numbers from 0 -/
theorem upI {P : Int → Prop} (h0 : P 0) (hS : ∀ p, 0 ≤ p → P p → P (p + 1)) : ∀ p, 0 ≤ p → P p := by
  intro p hp
  have key : ∀ n : Nat, P (n : Int) := by
    intro n
    induction n with
    | zero => exact h0
    | succ n ih =>
      have := hS (n : Int) (by omega) ih
      rwa [show ((n + 1 : Nat) : Int) = (n : Int) + 1 by omega]
  have := key p.toNat
  rwa [toNat_c hp] at this
theorem mxI_c {g f : Int → Int} : ∀ p, 0 ≤ p → (∀ y, 0 ≤ y → y < p → g y = f y) → mxI g p = mxI f p := by
  refine upI (fun _ => rfl) (fun p hp ih h => ?_)
  rw [mxI_S hp, mxI_S hp, ih (fun y h0 h1 => h y h0 (by omega)), h p hp (by omega)]
theorem mnI_c {g f : Int → Int} : ∀ p, 0 ≤ p → (∀ y, 0 ≤ y → y < p → g y = f y) → mnI g p = mnI f p := by
  refine upI (fun _ => rfl) (fun p hp ih h => ?_)
  rw [mnI_S hp, mnI_S hp, ih (fun y h0 h1 => h y h0 (by omega)), h p hp (by omega)]
theorem smI_c {g f : Int → Int} : ∀ p, 0 ≤ p → (∀ y, 0 ≤ y → y < p → g y = f y) → smI g p = smI f p := by
  refine upI (fun _ => rfl) (fun p hp ih h => ?_)
  rw [smI_S hp, smI_S hp, ih (fun y h0 h1 => h y h0 (by omega)), h p hp (by omega)]
theorem fsI_c {g f : Int → Int} {lim : Int} : ∀ p, 0 ≤ p → (∀ y, 0 ≤ y → y < p → g y = f y) → fsI g lim p = fsI f lim p := by
  refine upI (fun _ => rfl) (fun p hp ih h => ?_)
  rw [fsI_S hp, fsI_S hp, ih (fun y h0 h1 => h y h0 (by omega)), h p hp (by omega)]
theorem amI_in {g : Int → Int} : ∀ p, 0 ≤ p → 0 ≤ amI g p ∧ (amI g p < p ∨ amI g p = 0) := by
  refine upI ⟨Int.le_refl _, Or.inr rfl⟩ (fun p hp ih => ?_)
  rw [amI_S hp]
  split <;> omega
theorem amI_lt {g : Int → Int} {p : Int} (h : 1 ≤ p) : 0 ≤ amI g p ∧ amI g p < p := by
  have := amI_in (g := g) p (by omega)
  omega
theorem amI_c {g f : Int → Int} : ∀ p, 0 ≤ p → (∀ y, 0 ≤ y → y < p → g y = f y) → amI g p = amI f p := by
  refine upI (fun _ => rfl) (fun p hp ih h => ?_)
  have e := ih (fun y h0 h1 => h y h0 (by omega))
  rw [amI_S hp, amI_S hp, e, h p hp (by omega)]
  have h2 := amI_in (g := f) p hp
  by_cases h3 : p = 0
  · subst h3
    rw [amI_0, h 0 (by omega) (by omega)]
  · rw [h (amI f p) h2.1 (by omega)]
theorem mxI_ge {g : Int → Int} : ∀ p, 0 ≤ p → 0 ≤ mxI g p ∧ ∀ y, 0 ≤ y → y < p → g y ≤ mxI g p := by
  refine upI ⟨Int.le_refl _, fun y h0 h1 => by omega⟩ (fun p hp ih => ?_)
  rw [mxI_S hp]
  refine ⟨by omega, fun y h0 h1 => ?_⟩
  by_cases h2 : y = p
  · rw [h2]; omega
  · have := ih.2 y h0 (by omega); omega
theorem mxI_le {g : Int → Int} {K : Int} (hK : 0 ≤ K) : ∀ p, 0 ≤ p → (∀ y, 0 ≤ y → y < p → g y ≤ K) → mxI g p ≤ K := by
  refine upI (fun _ => hK) (fun p hp ih h => ?_)
  rw [mxI_S hp]
  have h1 := ih (fun y h0 h1 => h y h0 (by omega))
  have h2 := h p hp (by omega)
  omega
theorem mnI_le {g : Int → Int} : ∀ p, 0 ≤ p → mnI g p ≤ 1000000000 ∧ ∀ y, 0 ≤ y → y < p → mnI g p ≤ g y := by
  refine upI ⟨Int.le_refl _, fun y h0 h1 => by omega⟩ (fun p hp ih => ?_)
  rw [mnI_S hp]
  refine ⟨by omega, fun y h0 h1 => ?_⟩
  by_cases h2 : y = p
  · rw [h2]; omega
  · have := ih.2 y h0 (by omega); omega
theorem mnI_ge {g : Int → Int} {K : Int} (hK : K ≤ 1000000000) : ∀ p, 0 ≤ p → (∀ y, 0 ≤ y → y < p → K ≤ g y) → K ≤ mnI g p := by
  refine upI (fun _ => hK) (fun p hp ih h => ?_)
  rw [mnI_S hp]
  have h1 := ih (fun y h0 h1 => h y h0 (by omega))
  have h2 := h p hp (by omega)
  omega
/-- the first greatest one is the greatest -/
theorem mxI_am {g : Int → Int} {p : Int} (h1 : 1 ≤ p) (hg : ∀ y, 0 ≤ y → y < p → 0 ≤ g y) : g (amI g p) = mxI g p := by
  have key : ∀ q, 0 ≤ q → q + 1 ≤ p → g (amI g (q + 1)) = mxI g (q + 1) := by
    refine upI (fun _ => ?_) (fun q hq ih h => ?_)
    · have e := mxI_S (g := g) (p := 0) (Int.le_refl _)
      rw [mxI_0] at e
      have h0 := hg 0 (by omega) (by omega)
      rw [e, show (0 : Int) + 1 = 1 from rfl, amI_1]
      omega
    · have ih2 := ih (by omega)
      rw [amI_S (by omega), mxI_S (by omega), ← ih2]
      split <;> omega
  have := key (p - 1) (by omega) (by omega)
  rwa [Int.sub_add_cancel] at this
theorem fsI_in {g : Int → Int} {lim : Int} : ∀ p, 0 ≤ p → -1 ≤ fsI g lim p ∧ fsI g lim p < max p 1 := by
  refine upI (by rw [fsI_0]; omega) (fun p hp ih => ?_)
  rw [fsI_S hp]
  split <;> omega
/-- the first one above: nothing ahead of it is -/
theorem fsI_is {g : Int → Int} {lim b : Int} (hb : 0 ≤ b) (h : lim < g b) (hlo : ∀ y, 0 ≤ y → y < b → g y ≤ lim) : ∀ p, 0 ≤ p → b < p → fsI g lim p = b := by
  have h0 : ∀ p, 0 ≤ p → p ≤ b → fsI g lim p = -1 := by
    refine upI (fun _ => rfl) (fun p hp ih h2 => ?_)
    rw [fsI_S hp, ih (by omega), if_neg (fun h3 => by have := hlo p hp (by omega); omega)]
  refine upI (fun h2 => by omega) (fun p hp ih h2 => ?_)
  rw [fsI_S hp]
  by_cases e : p = b
  · subst e
    rw [h0 p hp (Int.le_refl _), if_pos ⟨rfl, h⟩]
  · rw [ih (by omega), if_neg (by omega)]
theorem fsI_no {g : Int → Int} {lim : Int} : ∀ p, 0 ≤ p → (∀ y, 0 ≤ y → y < p → g y ≤ lim) → fsI g lim p = -1 := by
  refine upI (fun _ => rfl) (fun p hp ih h => ?_)
  rw [fsI_S hp, ih (fun y h0 h1 => h y h0 (by omega)), if_neg (fun h3 => by have := h p hp (by omega); omega)]
/-- the first greatest one is the first above the greatest less 1 -/
theorem amI_fs {g : Int → Int} {p : Int} (h1 : 1 ≤ p) (hg : ∀ y, 0 ≤ y → y < p → 0 ≤ g y) : fsI g (mxI g p - 1) p = amI g p := by
  have h2 := amI_lt (g := g) h1
  have h3 := mxI_am h1 hg
  have first : ∀ q, 0 ≤ q → ∀ y, 0 ≤ y → y < amI g q → g y < g (amI g q) := by
    refine upI (fun y h0 h4 => by rw [amI_0] at h4; omega) (fun q hq ih y h0 h4 => ?_)
    have h6 := mxI_ge (g := g) q hq
    have h7 := amI_in (g := g) q hq
    rw [amI_S hq] at h4 ⊢
    split at h4 <;> rename_i h5
    · rw [if_pos h5]
      by_cases h8 : y < amI g q
      · have := ih y h0 h8; omega
      · by_cases h9 : y = amI g q
        · rw [h9]; exact h5
        · have key : ∀ r, 0 ≤ r → ∀ w, 0 ≤ w → w < r → g w ≤ g (amI g r) := by
            refine upI (fun w a b => by omega) (fun r hr ih3 w a b => ?_)
            rw [amI_S hr]
            split
            · rename_i c
              by_cases d : w = r
              · rw [d]; omega
              · have := ih3 w a (by omega); omega
            · rename_i c
              by_cases d : w = r
              · rw [d]; omega
              · exact ih3 w a (by omega)
          have := key q hq y h0 h4
          omega
    · rw [if_neg h5]
      exact ih y h0 h4
  exact fsI_is h2.1 (by omega) (fun y h0 h4 => by have := first p (by omega) y h0 h4; omega) p (by omega) h2.2
/-! BEATS -/
def zMk (mk b : Int) : Bool := decide (zAnd (zShr mk b) 1 = 1)
def nxB (ec : Int) (Fo Ho : Int → Int) (g : Int → Int → Int) (b p : Int) : Int :=
  if Fo p = -1 then g b p else max 1 (min 199 (g b p + (Ho p * (g (max 0 (b - ec)) (Fo p) - g b p)).tdiv 10))
def bR (ec : Int) (Fo Ho B0 : Int → Int) : Nat → Int → Int → Int
  | 0 => fun _ p => B0 p
  | n + 1 => fun b p => if b = (n : Int) + 1 then nxB ec Fo Ho (bR ec Fo Ho B0 n) n p else bR ec Fo Ho B0 n b p
def bF (ec : Int) (Fo Ho B0 : Int → Int) (b p : Int) : Int := bR ec Fo Ho B0 b.toNat b p
theorem bR_S {ec : Int} {Fo Ho B0 : Int → Int} {n : Nat} {b p : Int} : bR ec Fo Ho B0 (n + 1) b p = if b = (n : Int) + 1 then nxB ec Fo Ho (bR ec Fo Ho B0 n) n p else bR ec Fo Ho B0 n b p := rfl
theorem bR_lo {ec : Int} {Fo Ho B0 : Int → Int} : ∀ (m : Nat) (b p : Int), 0 ≤ b → b ≤ m → bR ec Fo Ho B0 m b p = bF ec Fo Ho B0 b p := by
  intro m
  induction m with
  | zero =>
    intro b p h0 h1
    have : b = 0 := by omega
    subst this
    rfl
  | succ m ih =>
    intro b p h0 h1
    by_cases h : b = (m : Int) + 1
    · unfold bF
      rw [show b.toNat = m + 1 by omega]
    · rw [bR_S, if_neg h]
      exact ih b p h0 (by omega)
theorem bF_0 {ec : Int} {Fo Ho B0 : Int → Int} {p : Int} : bF ec Fo Ho B0 0 p = B0 p := rfl
theorem bF_S {ec : Int} {Fo Ho B0 : Int → Int} {b p : Int} (hec : 0 ≤ ec) (hb : 0 ≤ b) : bF ec Fo Ho B0 (b + 1) p = nxB ec Fo Ho (bF ec Fo Ho B0) b p := by
  have e : bF ec Fo Ho B0 (b + 1) p = bR ec Fo Ho B0 (b.toNat + 1) (b + 1) p := by unfold bF; rw [toNat_S hb]
  rw [e, bR_S, if_pos (by omega)]
  unfold nxB
  rw [bR_lo _ _ _ (by omega) (by omega), bR_lo _ _ _ (by omega) (by omega), toNat_c hb]
theorem bF_in {ec pl : Int} {Fo Ho B0 : Int → Int} (hec : 0 ≤ ec) (hB : ∀ p, 0 ≤ p → p < pl → 1 ≤ B0 p ∧ B0 p ≤ 199) : ∀ b, 0 ≤ b → ∀ p, 0 ≤ p → p < pl → 1 ≤ bF ec Fo Ho B0 b p ∧ bF ec Fo Ho B0 b p ≤ 199 := by
  refine upI (fun p h0 h1 => by rw [bF_0]; exact hB p h0 h1) (fun b hb ih p h0 h1 => ?_)
  rw [bF_S hec hb]
  unfold nxB
  split
  · exact ih p h0 h1
  · omega
/-- only the first pl places matter -/
theorem bF_c {ec pl : Int} {Fo Ho B0 Fo2 Ho2 B2 : Int → Int} (hec : 0 ≤ ec) (h1 : ∀ p, 0 ≤ p → p < pl → Fo p = Fo2 p ∧ Ho p = Ho2 p ∧ B0 p = B2 p) (hF : ∀ p, 0 ≤ p → p < pl → -1 ≤ Fo p ∧ Fo p < pl) : ∀ b, 0 ≤ b → ∀ a, 0 ≤ a → a ≤ b → ∀ p, 0 ≤ p → p < pl → bF ec Fo Ho B0 a p = bF ec Fo2 Ho2 B2 a p := by
  refine upI (fun a a0 a1 p p0 p1 => ?_) (fun b hb ih a a0 a1 p p0 p1 => ?_)
  · have : a = 0 := by omega
    subst this
    rw [bF_0, bF_0]
    exact (h1 p p0 p1).2.2
  · by_cases h : a = b + 1
    · subst h
      rw [bF_S hec hb, bF_S hec hb]
      unfold nxB
      have e := h1 p p0 p1
      have f := hF p p0 p1
      rw [← e.1, ← e.2.1, ih b hb (Int.le_refl _) p p0 p1]
      split
      · rfl
      · rw [ih (max 0 (b - ec)) (by omega) (by omega) (Fo p) (by omega) (by omega)]
    · exact ih a a0 (by omega) p p0 p1
/-! TIMES -/
def tN (pl mk : Int) (Lt : Int → Int) (g : Int → Int → Int) : Nat → Int → Int
  | 0 => fun p => 0 + g 0 p + Lt p
  | n + 1 => fun p => (if zMk mk n then mxI (tN pl mk Lt g n) pl else tN pl mk Lt g n p) + g ((n : Int) + 1) p + Lt p
def tF (pl mk : Int) (Lt : Int → Int) (g : Int → Int → Int) (b p : Int) : Int := tN pl mk Lt g b.toNat p
/-- TIME behind waiting -/
def wF (pl mk : Int) (Lt : Int → Int) (g : Int → Int → Int) (b p : Int) : Int := if zMk mk b then mxI (tF pl mk Lt g b) pl else tF pl mk Lt g b p
theorem tF_0 {pl mk : Int} {Lt : Int → Int} {g : Int → Int → Int} {p : Int} : tF pl mk Lt g 0 p = 0 + g 0 p + Lt p := rfl
theorem tF_S {pl mk b p : Int} {Lt : Int → Int} {g : Int → Int → Int} (hb : 0 ≤ b) : tF pl mk Lt g (b + 1) p = wF pl mk Lt g b p + g (b + 1) p + Lt p := by
  unfold wF tF
  rw [toNat_S hb, tN, toNat_c hb]
theorem tF_in {pl mk : Int} {Lt : Int → Int} {g : Int → Int → Int} (hp : 0 ≤ pl) (hg : ∀ b p, 0 ≤ b → 0 ≤ p → p < pl → 1 ≤ g b p ∧ g b p ≤ 199) (hL : ∀ p, 0 ≤ p → p < pl → 0 ≤ Lt p ∧ Lt p ≤ 50) : ∀ b, 0 ≤ b → ∀ p, 0 ≤ p → p < pl → 1 ≤ tF pl mk Lt g b p ∧ tF pl mk Lt g b p ≤ 249 * (b + 1) := by
  refine upI (fun p h0 h1 => ?_) (fun b hb ih p h0 h1 => ?_)
  · have a1 := hg 0 p (by omega) h0 h1
    have a2 := hL p h0 h1
    rw [tF_0]
    omega
  · have a1 := hg (b + 1) p (by omega) h0 h1
    have a2 := hL p h0 h1
    rw [tF_S hb]
    unfold wF
    split
    · have a3 := mxI_le (g := tF pl mk Lt g b) (K := 249 * (b + 1)) (by omega) pl hp (fun y y0 y1 => (ih y y0 y1).2)
      have a4 := mxI_ge (g := tF pl mk Lt g b) pl hp
      omega
    · have := ih p h0 h1
      omega
theorem wF_in {pl mk : Int} {Lt : Int → Int} {g : Int → Int → Int} (hp : 0 ≤ pl) (hg : ∀ b p, 0 ≤ b → 0 ≤ p → p < pl → 1 ≤ g b p ∧ g b p ≤ 199) (hL : ∀ p, 0 ≤ p → p < pl → 0 ≤ Lt p ∧ Lt p ≤ 50) (b : Int) (hb : 0 ≤ b) (p : Int) (h0 : 0 ≤ p) (h1 : p < pl) : 1 ≤ wF pl mk Lt g b p ∧ wF pl mk Lt g b p ≤ 249 * (b + 1) := by
  have ih := tF_in (mk := mk) hp hg hL b hb
  unfold wF
  split
  · have a3 := mxI_le (g := tF pl mk Lt g b) (K := 249 * (b + 1)) (by omega) pl hp (fun y y0 y1 => (ih y y0 y1).2)
    have a4 := (mxI_ge (g := tF pl mk Lt g b) pl hp).2 p h0 h1
    have := ih p h0 h1
    omega
  · exact ih p h0 h1
theorem tF_c {pl mk : Int} {Lt L2 : Int → Int} {g g2 : Int → Int → Int} (hp : 0 ≤ pl) (hg : ∀ b p, 0 ≤ b → 0 ≤ p → p < pl → g b p = g2 b p) (hL : ∀ p, 0 ≤ p → p < pl → Lt p = L2 p) : ∀ b, 0 ≤ b → ∀ p, 0 ≤ p → p < pl → tF pl mk Lt g b p = tF pl mk L2 g2 b p := by
  refine upI (fun p h0 h1 => ?_) (fun b hb ih p h0 h1 => ?_)
  · rw [tF_0, tF_0, hg 0 p (by omega) h0 h1, hL p h0 h1]
  · rw [tF_S hb, tF_S hb, hg (b + 1) p (by omega) h0 h1, hL p h0 h1]
    unfold wF
    rw [mxI_c pl hp (fun y y0 y1 => ih y y0 y1), ih p h0 h1]
/-! of a SCORE: players, ECHO, MARKS, FOLLOWS, HOW, BEATS, LATES -/
def tS (pl ec mk : Int) (Fo Ho B0 Lt : Int → Int) : Int → Int → Int := tF pl mk Lt (bF ec Fo Ho B0)
def wS (pl ec mk : Int) (Fo Ho B0 Lt : Int → Int) : Int → Int → Int := wF pl mk Lt (bF ec Fo Ho B0)
def sS (pl ec mk : Int) (Fo Ho B0 Lt : Int → Int) (b : Int) : Int := mxI (tS pl ec mk Fo Ho B0 Lt b) pl - mnI (tS pl ec mk Fo Ho B0 Lt b) pl
def WO (pl n ec mk : Int) (Fo Ho B0 Lt : Int → Int) : Int := mxI (sS pl ec mk Fo Ho B0 Lt) n
/-- what a SCORE may be -/
def okS (pl n ec : Int) (Fo Ho B0 Lt : Int → Int) : Prop := 1 ≤ pl ∧ pl ≤ 6 ∧ 1 ≤ n ∧ n ≤ 30 ∧ 0 ≤ ec ∧ ec ≤ 3 ∧ ∀ p, 0 ≤ p → p < pl → (-1 ≤ Fo p ∧ Fo p < pl) ∧ (0 ≤ Ho p ∧ Ho p ≤ 10) ∧ (1 ≤ B0 p ∧ B0 p ≤ 199) ∧ (0 ≤ Lt p ∧ Lt p ≤ 50)
theorem okS.beat {pl n ec : Int} {Fo Ho B0 Lt : Int → Int} (h : okS pl n ec Fo Ho B0 Lt) (b p : Int) (hb : 0 ≤ b) (h0 : 0 ≤ p) (h1 : p < pl) : 1 ≤ bF ec Fo Ho B0 b p ∧ bF ec Fo Ho B0 b p ≤ 199 :=
  bF_in h.2.2.2.2.1 (fun p h0 h1 => (h.2.2.2.2.2.2 p h0 h1).2.2.1) b hb p h0 h1
theorem okS.time {pl n ec mk : Int} {Fo Ho B0 Lt : Int → Int} (h : okS pl n ec Fo Ho B0 Lt) (b p : Int) (hb : 0 ≤ b) (h0 : 0 ≤ p) (h1 : p < pl) : 1 ≤ tS pl ec mk Fo Ho B0 Lt b p ∧ tS pl ec mk Fo Ho B0 Lt b p ≤ 249 * (b + 1) :=
  tF_in (by have := h.1; omega) (fun b p hb h0 h1 => h.beat b p hb h0 h1) (fun p h0 h1 => (h.2.2.2.2.2.2 p h0 h1).2.2.2) b hb p h0 h1
theorem okS.wait {pl n ec mk : Int} {Fo Ho B0 Lt : Int → Int} (h : okS pl n ec Fo Ho B0 Lt) (b p : Int) (hb : 0 ≤ b) (h0 : 0 ≤ p) (h1 : p < pl) : 1 ≤ wS pl ec mk Fo Ho B0 Lt b p ∧ wS pl ec mk Fo Ho B0 Lt b p ≤ 249 * (b + 1) :=
  wF_in (by have := h.1; omega) (fun b p hb h0 h1 => h.beat b p hb h0 h1) (fun p h0 h1 => (h.2.2.2.2.2.2 p h0 h1).2.2.2) b hb p h0 h1
theorem okS.spread {pl n ec mk : Int} {Fo Ho B0 Lt : Int → Int} (h : okS pl n ec Fo Ho B0 Lt) (b : Int) (hb : 0 ≤ b) (hb30 : b < 30) : 0 ≤ sS pl ec mk Fo Ho B0 Lt b ∧ sS pl ec mk Fo Ho B0 Lt b ≤ 249 * (b + 1) := by
  have hp := h.1
  have t := fun p h0 h1 => h.time (mk := mk) b p hb h0 h1
  have t0 := t 0 (by omega) (by omega)
  unfold sS
  have a1 := (mxI_ge (g := tS pl ec mk Fo Ho B0 Lt b) pl (by omega)).2 0 (by omega) (by omega)
  have a2 := (mnI_le (g := tS pl ec mk Fo Ho B0 Lt b) pl (by omega)).2 0 (by omega) (by omega)
  have a3 := mxI_le (g := tS pl ec mk Fo Ho B0 Lt b) (K := 249 * (b + 1)) (by omega) pl (by omega) (fun y y0 y1 => (t y y0 y1).2)
  have a4 := mnI_ge (g := tS pl ec mk Fo Ho B0 Lt b) (K := 1) (by omega) pl (by omega) (fun y y0 y1 => (t y y0 y1).1)
  omega
theorem okS.worst {pl n ec mk : Int} {Fo Ho B0 Lt : Int → Int} (h : okS pl n ec Fo Ho B0 Lt) : 0 ≤ WO pl n ec mk Fo Ho B0 Lt ∧ WO pl n ec mk Fo Ho B0 Lt ≤ 7470 := by
  have hn := h.2.2.1
  have hn2 := h.2.2.2.1
  unfold WO
  exact ⟨(mxI_ge n (by omega)).1, mxI_le (by omega) n (by omega) (fun y y0 y1 => by have := (h.spread (mk := mk) y y0 (by omega)).2; omega)⟩
theorem WO_am {pl n ec mk : Int} {Fo Ho B0 Lt : Int → Int} (h : okS pl n ec Fo Ho B0 Lt) : sS pl ec mk Fo Ho B0 Lt (amI (sS pl ec mk Fo Ho B0 Lt) n) = WO pl n ec mk Fo Ho B0 Lt :=
  mxI_am h.2.2.1 (fun y y0 y1 => (h.spread y y0 (by have := h.2.2.2.1; omega)).1)
/-- two scores that are alike where it matters -/
theorem tS_c {pl n ec mk : Int} {Fo Ho B0 Lt Fo2 Ho2 B2 L2 : Int → Int} (h : okS pl n ec Fo Ho B0 Lt) (e : ∀ p, 0 ≤ p → p < pl → Fo p = Fo2 p ∧ Ho p = Ho2 p ∧ B0 p = B2 p ∧ Lt p = L2 p) (b p : Int) (hb : 0 ≤ b) (h0 : 0 ≤ p) (h1 : p < pl) : tS pl ec mk Fo Ho B0 Lt b p = tS pl ec mk Fo2 Ho2 B2 L2 b p :=
  tF_c (by have := h.1; omega) (fun b p hb h0 h1 => bF_c h.2.2.2.2.1 (fun p h0 h1 => ⟨(e p h0 h1).1, (e p h0 h1).2.1, (e p h0 h1).2.2.1⟩) (fun p h0 h1 => (h.2.2.2.2.2.2 p h0 h1).1) b hb b hb (Int.le_refl _) p h0 h1) (fun p h0 h1 => (e p h0 h1).2.2.2) b hb p h0 h1
theorem sS_c {pl n ec mk : Int} {Fo Ho B0 Lt Fo2 Ho2 B2 L2 : Int → Int} (h : okS pl n ec Fo Ho B0 Lt) (e : ∀ p, 0 ≤ p → p < pl → Fo p = Fo2 p ∧ Ho p = Ho2 p ∧ B0 p = B2 p ∧ Lt p = L2 p) (b : Int) (hb : 0 ≤ b) : sS pl ec mk Fo Ho B0 Lt b = sS pl ec mk Fo2 Ho2 B2 L2 b := by
  unfold sS
  rw [mxI_c pl (by have := h.1; omega) (fun y y0 y1 => tS_c (mk := mk) h e b y hb y0 y1), mnI_c pl (by have := h.1; omega) (fun y y0 y1 => tS_c (mk := mk) h e b y hb y0 y1)]
theorem WO_c {pl n ec mk : Int} {Fo Ho B0 Lt Fo2 Ho2 B2 L2 : Int → Int} (h : okS pl n ec Fo Ho B0 Lt) (e : ∀ p, 0 ≤ p → p < pl → Fo p = Fo2 p ∧ Ho p = Ho2 p ∧ B0 p = B2 p ∧ Lt p = L2 p) : WO pl n ec mk Fo Ho B0 Lt = WO pl n ec mk Fo2 Ho2 B2 L2 :=
  mxI_c n (by have := h.2.2.1; omega) (fun y y0 y1 => sS_c h e y y0)
theorem okS.c {pl n ec : Int} {Fo Ho B0 Lt Fo2 Ho2 B2 L2 : Int → Int} (h : okS pl n ec Fo Ho B0 Lt) (e : ∀ p, 0 ≤ p → p < pl → Fo p = Fo2 p ∧ Ho p = Ho2 p ∧ B0 p = B2 p ∧ Lt p = L2 p) : okS pl n ec Fo2 Ho2 B2 L2 :=
  ⟨h.1, h.2.1, h.2.2.1, h.2.2.2.1, h.2.2.2.2.1, h.2.2.2.2.2.1, fun p h0 h1 => by
    obtain ⟨a, b, c, d⟩ := e p h0 h1
    rw [← a, ← b, ← c, ← d]
    exact h.2.2.2.2.2.2 p h0 h1⟩
/-! rows of six laid flat: g is there as far as bar b, player p -/
def reg (A : Int → Int) (g : Int → Int → Int) (pl b p : Int) : Prop := ∀ x y, 0 ≤ x → 0 ≤ y → y < pl → (x < b ∨ x = b ∧ y < p) → A (6 * x + y) = g x y
theorem reg.zero {A : Int → Int} {g : Int → Int → Int} {pl : Int} : reg A g pl 0 0 := fun x y h0 h1 _ h => by omega
theorem reg.put {A : Int → Int} {g : Int → Int → Int} {pl b p z v : Int} (h : reg A g pl b p) (hb : 0 ≤ b) (hp : 0 ≤ p) (hpl : p < pl) (h6 : pl ≤ 6) (hz : z = 6 * b + p) (hv : v = g b p) : reg (uZ A z v) g pl b (p + 1) := by
  intro x y h0 h1 h2 h3
  by_cases e : x = b ∧ y = p
  · rw [e.1, e.2, ← hz, uZ_at, hv]
  · rw [uZ_ne (by omega)]
    exact h x y h0 h1 h2 (by omega)
theorem reg.next {A : Int → Int} {g : Int → Int → Int} {pl b p : Int} (h : reg A g pl b p) (hp : pl ≤ p) : reg A g pl (b + 1) 0 := fun x y h0 h1 h2 h3 => h x y h0 h1 h2 (by omega)
theorem reg.at {A : Int → Int} {g : Int → Int → Int} {pl b p z x y : Int} (h : reg A g pl b p) (hz : z = 6 * x + y) (h0 : 0 ≤ x) (h1 : 0 ≤ y) (h2 : y < pl) (h3 : x < b ∨ x = b ∧ y < p) : A z = g x y := by rw [hz]; exact h x y h0 h1 h2 h3
theorem reg.lo {A : Int → Int} {g : Int → Int → Int} {pl b p c q : Int} (h : reg A g pl b p) (hc : c < b ∨ c = b ∧ q ≤ p) : reg A g pl c q := fun x y h0 h1 h2 h3 => h x y h0 h1 h2 (by omega)
/-- columns of the reference's table of players -/
def c5 (Q : Int → Int) (k : Int) : Int → Int := fun p => Q (5 * p + k)
