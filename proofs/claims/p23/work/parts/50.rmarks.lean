/-! MARKS: lists of marked bars; the least by how many, then by bits -/
def pwB (b : Int) : Int := ((2 ^ b.toNat : Nat) : Int)
theorem zOr_nat {x y : Nat} (hx : x < 2 ^ 31) (hy : y < 2 ^ 31) : zOr (x : Int) (y : Int) = ((x ||| y : Nat) : Int) := by
  have h1 : (x ||| y) < 2 ^ 31 := Nat.or_lt_two_pow hx hy
  have e : i32 (x : Int) ||| i32 (y : Int) = i32 ((x ||| y : Nat) : Int) := by
    apply Int32.toBitVec_inj.mp
    apply BitVec.eq_of_toNat_eq
    have t : ∀ k : Nat, k < 2 ^ 31 → (i32 (k : Int)).toBitVec.toNat = k := fun k hk => by
      show (Int32.ofInt (k : Int)).toBitVec.toNat = k
      rw [Int32.toBitVec_ofInt, BitVec.ofInt_natCast, BitVec.toNat_ofNat]
      exact Nat.mod_eq_of_lt (by omega)
    rw [Int32.toBitVec_or, BitVec.toNat_or, t x hx, t y hy, t _ h1]
  unfold zOr
  rw [e]
  exact i32_toInt ⟨by omega, by omega⟩
theorem zShl_pw : ∀ b : Fin 31, zShl 1 (b.val : Int) = ((2 ^ b.val : Nat) : Int) := by decide +kernel
theorem pw_le {b : Int} (h0 : 0 ≤ b) (h1 : b ≤ 29) : 1 ≤ pwB b ∧ pwB b < 2 ^ 30 := by
  unfold pwB
  have h2 : 2 ^ b.toNat ≤ 2 ^ 29 := Nat.pow_le_pow_right (by decide) (by omega)
  have h3 : 0 < 2 ^ b.toNat := Nat.two_pow_pos _
  omega
theorem pw_S {b : Int} (h0 : 0 ≤ b) : pwB (b + 1) = 2 * pwB b := by
  unfold pwB
  rw [show (b + 1).toNat = b.toNat + 1 by omega, Nat.pow_succ]
  omega
/-- a bit above all the others -/
theorem zOr_hi {m b : Int} (h0 : 0 ≤ b) (h1 : b ≤ 29) (m0 : 0 ≤ m) (m1 : m < pwB b) : zOr m (zShl 1 b) = m + pwB b := by
  have hp := pw_le h0 h1
  have e1 := zShl_pw ⟨b.toNat, by omega⟩
  dsimp only at e1
  rw [show ((b.toNat : Nat) : Int) = b by omega] at e1
  unfold pwB at m1 hp ⊢
  have e2 : m = ((m.toNat : Nat) : Int) := by omega
  rw [e1, e2, zOr_nat (by omega) (by omega)]
  have h2 := Nat.two_pow_add_eq_or_of_lt (i := b.toNat) (b := m.toNat) (by omega) 1
  rw [Nat.mul_one] at h2
  rw [Nat.or_comm, ← h2]
  omega
/-- a bit below all the others -/
theorem zOr_lo {m b q : Int} (h0 : 0 ≤ b) (h1 : b ≤ 29) (q0 : 0 ≤ q) (hm : m = pwB (b + 1) * q) (m1 : m < 2 ^ 30) : zOr m (zShl 1 b) = m + pwB b := by
  have hp := pw_le h0 h1
  have e1 := zShl_pw ⟨b.toNat, by omega⟩
  dsimp only at e1
  rw [show ((b.toNat : Nat) : Int) = b by omega] at e1
  have e3 : m = ((2 ^ (b.toNat + 1) * q.toNat : Nat) : Int) := by
    rw [hm]
    unfold pwB
    rw [show (b + 1).toNat = b.toNat + 1 by omega, Int.natCast_mul, show ((q.toNat : Nat) : Int) = q by omega]
  unfold pwB at hp ⊢
  rw [e1, e3, zOr_nat (by omega) (by omega)]
  have h2 := Nat.two_pow_add_eq_or_of_lt (i := b.toNat + 1) (b := 2 ^ b.toNat) (Nat.pow_lt_pow_right (by decide) (by omega)) q.toNat
  rw [← h2]
  omega
def bitL : List Int → Int
  | [] => 0
  | b :: r => pwB b + bitL r
/-- from a start to a start -/
def PWl (ok : Int → Int → Prop) (n : Int) : List Int → Int → Int → Prop
  | [], i, j => i = j
  | b :: r, i, j => i ≤ b ∧ b < n - 1 ∧ ok i b ∧ PWl ok n r (b + 1) j
def Fu (ok : Int → Int → Prop) (n : Int) (ms : List Int) (i : Int) : Prop := ∃ j, j < n ∧ PWl ok n ms i j ∧ ok j (n - 1)
def lst (S : List Int → Prop) (c m : Int) : Prop := (∃ ms, S ms ∧ c = (ms.length : Int) ∧ m = bitL ms) ∧ ∀ ms, S ms → c < (ms.length : Int) ∨ (c = (ms.length : Int) ∧ m ≤ bitL ms)
theorem lst_u {S : List Int → Prop} {c m c2 m2 : Int} (h : lst S c m) (g : lst S c2 m2) : c = c2 ∧ m = m2 := by
  obtain ⟨⟨x, x1, x2, x3⟩, x4⟩ := h
  obtain ⟨⟨y, y1, y2, y3⟩, y4⟩ := g
  have a := x4 y y1
  have b := y4 x x1
  omega
theorem lst_e {S T : List Int → Prop} {c m : Int} (e : ∀ ms, S ms ↔ T ms) (h : lst S c m) : lst T c m := by
  obtain ⟨⟨x, x1, x2, x3⟩, x4⟩ := h
  exact ⟨⟨x, (e x).mp x1, x2, x3⟩, fun ms hm => x4 ms ((e ms).mpr hm)⟩
theorem PW_app {ok : Int → Int → Prop} {n : Int} : ∀ (xs ys : List Int) (i k : Int), PWl ok n (xs ++ ys) i k ↔ ∃ j, PWl ok n xs i j ∧ PWl ok n ys j k := by
  intro xs
  induction xs with
  | nil => exact fun ys i k => ⟨fun h => ⟨i, rfl, h⟩, fun ⟨j, h1, h2⟩ => by rw [show i = j from h1]; exact h2⟩
  | cons b r ih =>
    intro ys i k
    constructor
    · rintro ⟨h1, h2, h3, h4⟩
      obtain ⟨j, h5, h6⟩ := (ih ys (b + 1) k).mp h4
      exact ⟨j, ⟨h1, h2, h3, h5⟩, h6⟩
    · rintro ⟨j, ⟨h1, h2, h3, h4⟩, h5⟩
      exact ⟨h1, h2, h3, (ih ys (b + 1) k).mpr ⟨j, h4, h5⟩⟩
theorem PW_ge {ok : Int → Int → Prop} {n : Int} : ∀ (xs : List Int) (i j : Int), PWl ok n xs i j → i ≤ j := by
  intro xs
  induction xs with
  | nil => exact fun i j h => by rw [show i = j from h]; exact Int.le_refl j
  | cons b r ih =>
    rintro i j ⟨h1, h2, h3, h4⟩
    have := ih _ _ h4
    omega
theorem bit_app : ∀ xs ys : List Int, bitL (xs ++ ys) = bitL xs + bitL ys := by
  intro xs
  induction xs with
  | nil => intro ys; show bitL ys = 0 + bitL ys; omega
  | cons b r ih =>
    intro ys
    show pwB b + bitL (r ++ ys) = pwB b + bitL r + bitL ys
    rw [ih]; omega
/-- the bits of a way from i to j lie in i .. j - 1 -/
theorem bit_in {ok : Int → Int → Prop} {n : Int} (hn : n ≤ 30) : ∀ (xs : List Int) (i j : Int), 0 ≤ i → PWl ok n xs i j → 0 ≤ bitL xs ∧ bitL xs + pwB i ≤ pwB j ∧ ∃ q, 0 ≤ q ∧ bitL xs = pwB i * q := by
  intro xs
  induction xs with
  | nil => exact fun i j h0 h => ⟨Int.le_refl 0, by rw [show i = j from h]; show 0 + pwB j ≤ pwB j; omega, 0, Int.le_refl 0, (Int.mul_zero _).symm⟩
  | cons b r ih =>
    rintro i j h0 ⟨h1, h2, h3, h4⟩
    obtain ⟨a1, a2, q, q0, q1⟩ := ih _ _ (by omega) h4
    have e := pw_S (b := b) (by omega)
    have p0 : 0 ≤ pwB b := Int.natCast_nonneg _
    obtain ⟨t, t0, t1⟩ : ∃ t, 1 ≤ t ∧ pwB b = pwB i * t := by
      refine ⟨((2 ^ (b.toNat - i.toNat) : Nat) : Int), by have := Nat.two_pow_pos (b.toNat - i.toNat); omega, ?_⟩
      unfold pwB
      rw [← Int.natCast_mul, ← Nat.pow_add, show i.toNat + (b.toNat - i.toNat) = b.toNat by omega]
    have p1 : pwB i ≤ pwB b := by
      rw [t1]
      have p2 : 0 ≤ pwB i := Int.natCast_nonneg _
      calc pwB i = pwB i * 1 := (Int.mul_one _).symm
        _ ≤ pwB i * t := Int.mul_le_mul_of_nonneg_left t0 p2
    refine ⟨?_, ?_, t + 2 * t * q, ?_, ?_⟩
    · show 0 ≤ pwB b + bitL r
      omega
    · show pwB b + bitL r + pwB i ≤ pwB j
      omega
    · have := Int.mul_nonneg (show 0 ≤ 2 * t by omega) q0
      omega
    · show pwB b + bitL r = _
      rw [q1, e, t1, Int.mul_add, ← Int.mul_assoc (pwB i) (2 * t) q, ← Int.mul_assoc (pwB i) 2 t, Int.mul_comm (pwB i) 2, Int.mul_assoc 2 (pwB i) t]
/-- the least of two heaps -/
theorem lst_or {S T : List Int → Prop} {c m c2 m2 : Int} (h : lst S c m) (g : lst T c2 m2) : lst (fun ms => S ms ∨ T ms) (if c2 < c ∨ (c2 = c ∧ m2 < m) then c2 else c) (if c2 < c ∨ (c2 = c ∧ m2 < m) then m2 else m) := by
  obtain ⟨⟨x, x1, x2, x3⟩, x4⟩ := h
  obtain ⟨⟨y, y1, y2, y3⟩, y4⟩ := g
  by_cases k : c2 < c ∨ (c2 = c ∧ m2 < m)
  · rw [if_pos k, if_pos k]
    refine ⟨⟨y, Or.inr y1, y2, y3⟩, fun ms hm => ?_⟩
    rcases hm with hm | hm
    · have := x4 ms hm; omega
    · exact y4 ms hm
  · rw [if_neg k, if_neg k]
    refine ⟨⟨x, Or.inl x1, x2, x3⟩, fun ms hm => ?_⟩
    rcases hm with hm | hm
    · exact x4 ms hm
    · have := y4 ms hm; omega
/-- none, or the least: none is -1 in the reference, ENDLESS in the class -/
def RB (S : List Int → Prop) (c m : Int) : Prop := (c = -1 ∧ ∀ ms, ¬ S ms) ∨ (0 ≤ c ∧ lst S c m)
def RC (S : List Int → Prop) (c m : Int) : Prop := (c = 1000000000 ∧ ∀ ms, ¬ S ms) ∨ (c < 1000000000 ∧ lst S c m)
theorem RB_e {S T : List Int → Prop} {c m : Int} (e : ∀ ms, S ms ↔ T ms) (h : RB S c m) : RB T c m := by
  rcases h with ⟨h1, h2⟩ | ⟨h1, h2⟩
  · exact Or.inl ⟨h1, fun ms q => h2 ms ((e ms).mpr q)⟩
  · exact Or.inr ⟨h1, lst_e e h2⟩
theorem RC_e {S T : List Int → Prop} {c m : Int} (e : ∀ ms, S ms ↔ T ms) (h : RC S c m) : RC T c m := by
  rcases h with ⟨h1, h2⟩ | ⟨h1, h2⟩
  · exact Or.inl ⟨h1, fun ms q => h2 ms ((e ms).mpr q)⟩
  · exact Or.inr ⟨h1, lst_e e h2⟩
theorem RB_or {S T : List Int → Prop} {c m c2 m2 : Int} (h : RB S c m) (g : RB T c2 m2) : RB (fun ms => S ms ∨ T ms) (if c2 ≠ -1 ∧ (c = -1 ∨ c2 < c ∨ (c2 = c ∧ m2 < m)) then c2 else c) (if c2 ≠ -1 ∧ (c = -1 ∨ c2 < c ∨ (c2 = c ∧ m2 < m)) then m2 else m) := by
  rcases g with ⟨g1, g2⟩ | ⟨g1, g2⟩
  · rw [if_neg (fun q => q.1 g1), if_neg (fun q => q.1 g1)]
    exact RB_e (fun ms => ⟨fun q => Or.inl q, fun q => q.elim id (fun q => absurd q (g2 ms))⟩) h
  · rcases h with ⟨h1, h2⟩ | ⟨h1, h2⟩
    · rw [if_pos ⟨by omega, Or.inl h1⟩, if_pos ⟨by omega, Or.inl h1⟩]
      exact RB_e (fun ms => ⟨fun q => Or.inr q, fun q => q.elim (fun q => absurd q (h2 ms)) id⟩) (Or.inr ⟨g1, g2⟩)
    · have k := lst_or h2 g2
      by_cases d : c2 < c ∨ (c2 = c ∧ m2 < m)
      · rw [if_pos d, if_pos d] at k
        rw [if_pos ⟨by omega, Or.inr d⟩, if_pos ⟨by omega, Or.inr d⟩]
        exact Or.inr ⟨g1, k⟩
      · rw [if_neg d, if_neg d] at k
        rw [if_neg (fun q => q.2.elim (fun q => by omega) d), if_neg (fun q => q.2.elim (fun q => by omega) d)]
        exact Or.inr ⟨h1, k⟩
theorem RC_or {S T : List Int → Prop} {c m c2 m2 : Int} (h : RC S c m) (g : lst T c2 m2) (h2 : c2 < 1000000000) : RC (fun ms => S ms ∨ T ms) (if c2 < c ∨ (c2 = c ∧ m2 < m) then c2 else c) (if c2 < c ∨ (c2 = c ∧ m2 < m) then m2 else m) := by
  rcases h with ⟨h1, h3⟩ | ⟨h1, h3⟩
  · rw [if_pos (Or.inl (by omega)), if_pos (Or.inl (by omega))]
    exact RC_e (fun ms => ⟨fun q => Or.inr q, fun q => q.elim (fun q => absurd q (h3 ms)) id⟩) (Or.inr ⟨h2, g⟩)
  · have k := lst_or h3 g
    refine Or.inr ⟨?_, k⟩
    split <;> omega
/-- one mark ahead of the least -/
theorem lst_cons {S : List Int → Prop} {c m b : Int} (h : lst S c m) : lst (fun ms => ∃ r, ms = b :: r ∧ S r) (c + 1) (m + pwB b) := by
  obtain ⟨⟨x, x1, x2, x3⟩, x4⟩ := h
  refine ⟨⟨b :: x, ⟨x, rfl, x1⟩, by rw [List.length_cons]; omega, by show m + pwB b = pwB b + bitL x; omega⟩, ?_⟩
  rintro ms ⟨r, rfl, hr⟩
  have k := x4 r hr
  rw [List.length_cons]
  show c + 1 < _ ∨ (c + 1 = _ ∧ m + pwB b ≤ pwB b + bitL r)
  omega
theorem lst_snoc {S : List Int → Prop} {c m b : Int} (h : lst S c m) : lst (fun ms => ∃ r, ms = r ++ [b] ∧ S r) (c + 1) (m + pwB b) := by
  have eb : ∀ r : List Int, bitL (r ++ [b]) = bitL r + pwB b := fun r => by
    rw [bit_app]
    show bitL r + (pwB b + 0) = _
    omega
  obtain ⟨⟨x, x1, x2, x3⟩, x4⟩ := h
  refine ⟨⟨x ++ [b], ⟨x, rfl, x1⟩, by rw [List.length_append, List.length_singleton]; omega, by rw [eb]; omega⟩, ?_⟩
  rintro ms ⟨r, rfl, hr⟩
  have k := x4 r hr
  rw [List.length_append, List.length_singleton, eb]
  omega
section MK
variable {ok : Int → Int → Prop} {n : Int}
/-- backward: those from i whose first mark (the last bar where there is none) lies ahead of k -/
def fiM (n : Int) (ms : List Int) : Int := match ms with
  | [] => n - 1
  | b :: _ => b
def SBk (ok : Int → Int → Prop) (n i k : Int) (ms : List Int) : Prop := Fu ok n ms i ∧ fiM n ms < k
theorem SB_0 {i : Int} (hi : i < n) : ∀ ms, ¬ SBk ok n i i ms := by
  rintro ms ⟨⟨j, j1, j2, j3⟩, h2⟩
  cases ms with
  | nil =>
    have e : i = j := j2
    have h3 : n - 1 < i := h2
    omega
  | cons b r =>
    have h3 : b < i := h2
    have := j2.1
    omega
theorem SB_end {i k : Int} (hk : n ≤ k) : ∀ ms, SBk ok n i k ms ↔ Fu ok n ms i := by
  intro ms
  refine ⟨fun h => h.1, fun h => ⟨h, ?_⟩⟩
  obtain ⟨j, j1, j2, j3⟩ := h
  cases ms with
  | nil => show n - 1 < k; omega
  | cons b r =>
    have := j2.2.1
    show b < k
    omega
/-- no further: the segment i .. k is too wide -/
theorem SB_stop (hok : ∀ i b c, ok i b → i ≤ c → c ≤ b → ok i c) {i k : Int} (hi : i ≤ k) (hk : k < n) (hno : ¬ ok i k) : ∀ ms, SBk ok n i k ms ↔ Fu ok n ms i := by
  intro ms
  refine ⟨fun h => h.1, fun h => ⟨h, ?_⟩⟩
  obtain ⟨j, j1, j2, j3⟩ := h
  cases ms with
  | nil =>
    have e : i = j := j2
    exact absurd (hok i (n - 1) k (by rw [e]; exact j3) hi (by omega)) hno
  | cons b r =>
    show b < k
    refine Int.not_le.mp (fun q => hno (hok i b k j2.2.2.1 hi q))
theorem SB_last {i : Int} (hi : i < n) (ho : ok i (n - 1)) : lst (fun ms => Fu ok n ms i ∧ fiM n ms = n - 1) 0 0 := by
  refine ⟨⟨[], ⟨⟨i, hi, rfl, ho⟩, rfl⟩, rfl, rfl⟩, ?_⟩
  rintro ms ⟨⟨j, j1, j2, j3⟩, h2⟩
  cases ms with
  | nil => exact Or.inr ⟨rfl, Int.le_refl 0⟩
  | cons b r =>
    have := j2.2.1
    have h3 : b = n - 1 := h2
    omega
theorem SB_mid {i b : Int} (hi : i ≤ b) (hb : b < n - 1) (ho : ok i b) : ∀ ms, (∃ r, ms = b :: r ∧ Fu ok n r (b + 1)) ↔ (Fu ok n ms i ∧ fiM n ms = b) := by
  intro ms
  constructor
  · rintro ⟨r, rfl, ⟨j, j1, j2, j3⟩⟩
    exact ⟨⟨j, j1, ⟨hi, hb, ho, j2⟩, j3⟩, rfl⟩
  · rintro ⟨⟨j, j1, j2, j3⟩, h2⟩
    cases ms with
    | nil =>
      have h3 : n - 1 = b := h2
      omega
    | cons b2 r =>
      have h3 : b2 = b := h2
      subst h3
      exact ⟨r, rfl, j, j1, j2.2.2.2, j3⟩
theorem SB_split {i k : Int} : ∀ ms, (SBk ok n i k ms ∨ (Fu ok n ms i ∧ fiM n ms = k)) ↔ SBk ok n i (k + 1) ms := by
  intro ms
  unfold SBk
  constructor
  · rintro (⟨h1, h2⟩ | ⟨h1, h2⟩)
    · exact ⟨h1, by omega⟩
    · exact ⟨h1, by omega⟩
  · rintro ⟨h1, h2⟩
    by_cases c : fiM n ms < k
    · exact Or.inl ⟨h1, c⟩
    · exact Or.inr ⟨h1, by omega⟩
/-- forward: those to i whose last segment begins ahead of k -/
def CTk (ok : Int → Int → Prop) (n i k : Int) (ms : List Int) : Prop := (ms = [] ∧ i = 0) ∨ ∃ (r : List Int) (b s : Int), ms = r ++ [b] ∧ i = b + 1 ∧ b < n - 1 ∧ 0 ≤ s ∧ s < k ∧ s ≤ b ∧ ok s b ∧ PWl ok n r 0 s
theorem CT_0 : lst (CTk ok n 0 0) 0 0 := by
  refine ⟨⟨[], Or.inl ⟨rfl, rfl⟩, rfl, rfl⟩, fun ms hm => ?_⟩
  rcases hm with ⟨h1, -⟩ | ⟨r, b, s, -, -, -, h1, h2, -⟩
  · rw [h1]
    exact Or.inr ⟨rfl, Int.le_refl 0⟩
  · exact absurd h2 (by omega)
theorem CT_n {i : Int} (hi : i ≠ 0) : ∀ ms, ¬ CTk ok n i 0 ms := by
  rintro ms (⟨-, h⟩ | ⟨r, b, s, -, -, -, h1, h2, -⟩)
  · exact hi h
  · exact absurd h2 (by omega)
theorem snocL : ∀ l : List Int, l = [] ∨ ∃ r b, l = r ++ [b] := by
  intro l
  induction l with
  | nil => exact Or.inl rfl
  | cons x l ih =>
    right
    rcases ih with rfl | ⟨r, b, rfl⟩
    · exact ⟨[], x, rfl⟩
    · exact ⟨x :: r, b, rfl⟩
theorem CT_full {i k : Int} (hk : i ≤ k) : ∀ ms, CTk ok n i k ms ↔ PWl ok n ms 0 i := by
  intro ms
  constructor
  · rintro (⟨h1, h2⟩ | ⟨r, b, s, h1, h2, h3, h4, h5, h6, h7, h8⟩)
    · rw [h1, h2]; rfl
    · rw [h1]
      exact (PW_app r [b] 0 i).mpr ⟨s, h8, h6, h3, h7, h2.symm⟩
  · intro h
    rcases snocL ms with rfl | ⟨r, b, rfl⟩
    · exact Or.inl ⟨rfl, (show (0 : Int) = i from h).symm⟩
    · obtain ⟨s, h1, h2, h3, h4, h5⟩ := (PW_app r [b] 0 i).mp h
      have h6 : b + 1 = i := h5
      have h7 := PW_ge r 0 s h1
      exact Or.inr ⟨r, b, s, rfl, h6.symm, h3, h7, by omega, h2, h4, h1⟩
theorem CT_step {b s : Int} (h0 : 0 ≤ s) (hs : s ≤ b) (hb : b < n - 1) (ho : ok s b) : ∀ ms, (CTk ok n (b + 1) s ms ∨ ∃ r, ms = r ++ [b] ∧ PWl ok n r 0 s) ↔ CTk ok n (b + 1) (s + 1) ms := by
  intro ms
  constructor
  · rintro ((⟨h1, h2⟩ | ⟨r, b2, s2, h1, h2, h3, h4, h5, h6, h7, h8⟩) | ⟨r, h1, h2⟩)
    · exact Or.inl ⟨h1, h2⟩
    · exact Or.inr ⟨r, b2, s2, h1, h2, h3, h4, by omega, h6, h7, h8⟩
    · exact Or.inr ⟨r, b, s, h1, rfl, hb, h0, by omega, hs, ho, h2⟩
  · rintro (⟨h1, h2⟩ | ⟨r, b2, s2, h1, h2, h3, h4, h5, h6, h7, h8⟩)
    · exact Or.inl (Or.inl ⟨h1, h2⟩)
    · by_cases c : s2 < s
      · exact Or.inl (Or.inr ⟨r, b2, s2, h1, h2, h3, h4, c, h6, h7, h8⟩)
      · have e1 : s2 = s := by omega
        have e2 : b2 = b := by omega
        subst e1
        subst e2
        exact Or.inr ⟨r, h1, h8⟩
theorem CT_skip {i s : Int} (hno : ∀ b, i = b + 1 → s ≤ b → ok s b → ∀ r, ¬ PWl ok n r 0 s) : ∀ ms, CTk ok n i s ms ↔ CTk ok n i (s + 1) ms := by
  intro ms
  constructor
  · rintro (⟨h1, h2⟩ | ⟨r, b2, s2, h1, h2, h3, h4, h5, h6, h7, h8⟩)
    · exact Or.inl ⟨h1, h2⟩
    · exact Or.inr ⟨r, b2, s2, h1, h2, h3, h4, by omega, h6, h7, h8⟩
  · rintro (⟨h1, h2⟩ | ⟨r, b2, s2, h1, h2, h3, h4, h5, h6, h7, h8⟩)
    · exact Or.inl ⟨h1, h2⟩
    · by_cases c : s2 < s
      · exact Or.inr ⟨r, b2, s2, h1, h2, h3, h4, c, h6, h7, h8⟩
      · have e1 : s2 = s := by omega
        subst e1
        exact absurd h8 (hno b2 h2 h6 h7 r)
/-- whole runs whose last segment begins ahead of k -/
def EDk (ok : Int → Int → Prop) (n k : Int) (ms : List Int) : Prop := ∃ s, 0 ≤ s ∧ s < k ∧ s < n ∧ PWl ok n ms 0 s ∧ ok s (n - 1)
theorem ED_0 : ∀ ms, ¬ EDk ok n 0 ms := by
  rintro ms ⟨s, h1, h2, -⟩
  omega
theorem ED_step {s : Int} (h0 : 0 ≤ s) (hs : s < n) (ho : ok s (n - 1)) : ∀ ms, (EDk ok n s ms ∨ PWl ok n ms 0 s) ↔ EDk ok n (s + 1) ms := by
  intro ms
  constructor
  · rintro (⟨s2, h1, h2, h3⟩ | h)
    · exact ⟨s2, h1, by omega, h3⟩
    · exact ⟨s, h0, by omega, hs, h, ho⟩
  · rintro ⟨s2, h1, h2, h3, h4, h5⟩
    by_cases c : s2 < s
    · exact Or.inl ⟨s2, h1, c, h3, h4, h5⟩
    · have e1 : s2 = s := by omega
      subst e1
      exact Or.inr h4
theorem ED_skip {s : Int} (hno : ok s (n - 1) → ∀ r, ¬ PWl ok n r 0 s) : ∀ ms, EDk ok n s ms ↔ EDk ok n (s + 1) ms := by
  intro ms
  constructor
  · rintro ⟨s2, h1, h2, h3⟩
    exact ⟨s2, h1, by omega, h3⟩
  · rintro ⟨s2, h1, h2, h3, h4, h5⟩
    by_cases c : s2 < s
    · exact ⟨s2, h1, c, h3, h4, h5⟩
    · have e1 : s2 = s := by omega
      subst e1
      exact absurd h4 (hno h5 ms)
theorem ED_full {k : Int} (hk : n ≤ k) : ∀ ms, EDk ok n k ms ↔ Fu ok n ms 0 := by
  intro ms
  constructor
  · rintro ⟨s, h1, h2, h3, h4, h5⟩
    exact ⟨s, h3, h4, h5⟩
  · rintro ⟨s, h3, h4, h5⟩
    have := PW_ge ms 0 s h4
    exact ⟨s, this, by omega, h3, h4, h5⟩
/-- the class's end and the reference's -/
theorem mk_eq {c m c2 m2 : Int} (h : RC (Fu ok n · 0) c m) (g : RB (Fu ok n · 0) c2 m2) : (c = 1000000000 ∧ c2 = -1) ∨ (c < 1000000000 ∧ c2 ≠ -1 ∧ c = c2 ∧ m = m2) := by
  rcases h with ⟨h1, h2⟩ | ⟨h1, h2⟩ <;> rcases g with ⟨g1, g2⟩ | ⟨g1, g2⟩
  · exact Or.inl ⟨h1, g1⟩
  · obtain ⟨⟨x, x1, -⟩, -⟩ := g2
    exact absurd x1 (h2 x)
  · obtain ⟨⟨x, x1, -⟩, -⟩ := h2
    exact absurd x1 (g2 x)
  · have k := lst_u h2 g2
    exact Or.inr ⟨h1, by omega, k.1, k.2⟩
end MK
/-! SPREADS behind a start -/
def sgM (D : Int → Int → Int) (s b x : Int) : Int := smI (fun k => D (s + k) x) (b - s)
theorem sgM_0 {D : Int → Int → Int} {s x : Int} : sgM D s s x = 0 := by
  unfold sgM
  rw [Int.sub_self]
  rfl
theorem sgM_S {D : Int → Int → Int} {s b x : Int} (h : s ≤ b) : sgM D s (b + 1) x = sgM D s b x + D b x := by
  unfold sgM
  rw [show b + 1 - s = (b - s) + 1 by omega, smI_S (by omega)]
  show _ + D (s + (b - s)) x = _
  rw [show s + (b - s) = b by omega]
def spM (pl : Int) (D : Int → Int → Int) (s b : Int) : Int := mxI (sgM D s (b + 1)) pl - mnI (sgM D s (b + 1)) pl
def gdM (pl lim : Int) (D : Int → Int → Int) (s b : Int) : Prop := ∀ c, s ≤ c → c ≤ b → spM pl D s c ≤ lim
theorem gdM_pre {pl lim : Int} {D : Int → Int → Int} : ∀ i b c, gdM pl lim D i b → i ≤ c → c ≤ b → gdM pl lim D i c := fun i b c h h1 h2 d d0 d1 => h d d0 (by omega)
theorem gdM_S {pl lim : Int} {D : Int → Int → Int} {s b : Int} (h : ∀ c, s ≤ c → c < b → spM pl D s c ≤ lim) (h2 : spM pl D s b ≤ lim) : gdM pl lim D s b := fun c c0 c1 => (by omega : c < b ∨ c = b).elim (h c c0) (fun q => by rw [q]; exact h2)
section MB
variable {ok : Int → Int → Prop} {n : Int}
theorem cand_mid {i b f2 b2 : Int} (hn : n ≤ 30) (h0 : 0 ≤ i) (hi : i ≤ b) (hb : b < n - 1) (ho : ok i b) (hR : RB (fun ms => Fu ok n ms (b + 1)) f2 b2) (hf : f2 ≠ -1) : RB (fun ms => Fu ok n ms i ∧ fiM n ms = b) (f2 + 1) (zOr b2 (zShl 1 b)) := by
  rcases hR with ⟨h1, -⟩ | ⟨h1, h2⟩
  · exact absurd h1 hf
  · obtain ⟨⟨ms, ⟨j, j1, j2, j3⟩, m2, m3⟩, -⟩ := id h2
    obtain ⟨q1, q2, q, q3, q4⟩ := bit_in hn ms (b + 1) j (by omega) j2
    have hp := pw_le (b := j) (by have := PW_ge _ _ _ j2; omega) (by omega)
    have hp2 := pw_le (b := b + 1) (by omega) (by omega)
    rw [zOr_lo (q := q) (by omega) (by omega) q3 (by rw [m3]; exact q4) (by omega)]
    exact Or.inr ⟨by omega, lst_e (SB_mid hi hb ho) (lst_cons h2)⟩
theorem cand_none {i b f2 b2 x : Int} (hi : i ≤ b) (hb : b < n - 1) (ho : ok i b) (hR : RB (fun ms => Fu ok n ms (b + 1)) f2 b2) (hf : f2 = -1) : RB (fun ms => Fu ok n ms i ∧ fiM n ms = b) (-1) x := by
  rcases hR with ⟨-, h2⟩ | ⟨h1, -⟩
  · refine Or.inl ⟨rfl, fun ms q => ?_⟩
    obtain ⟨r, -, h3⟩ := (SB_mid hi hb ho ms).mpr q
    exact h2 r h3
  · exact absurd hf (by omega)
theorem cand_last {i b : Int} (hi : i ≤ b) (hb : b = n - 1) (ho : ok i b) : RB (fun ms => Fu ok n ms i ∧ fiM n ms = b) 0 0 := by
  subst hb
  exact Or.inr ⟨Int.le_refl 0, SB_last (by omega) ho⟩
theorem mb_keep {i b c m f9 b9 : Int} (h : RB (SBk ok n i b) c m) (g : RB (fun ms => Fu ok n ms i ∧ fiM n ms = b) f9 b9) (hno : ¬ (f9 ≠ -1 ∧ (c = -1 ∨ f9 < c ∨ (f9 = c ∧ b9 < m)))) : RB (SBk ok n i (b + 1)) c m := by
  have k := RB_or h g
  rw [if_neg hno, if_neg hno] at k
  exact RB_e SB_split k
theorem mb_take {i b c m f9 b9 : Int} (h : RB (SBk ok n i b) c m) (g : RB (fun ms => Fu ok n ms i ∧ fiM n ms = b) f9 b9) (hy : f9 ≠ -1 ∧ (c = -1 ∨ f9 < c ∨ (f9 = c ∧ b9 < m))) : RB (SBk ok n i (b + 1)) f9 b9 := by
  have k := RB_or h g
  rw [if_pos hy, if_pos hy] at k
  exact RB_e SB_split k
end MB
set_option maxHeartbeats 4000000 in
set_option maxRecDepth 100000 in
theorem kX12_odds (l : Launch) (h0 : Nat) (f : Nat → AV) (pl : Int) (n : Int) (ec : Int) (mk : Int) (hQ : Nat) (hB : Nat) (hE : Nat) (hA : Nat) (hM : Nat) (hW : Nat) (Q : Int → Int) (B : Int → Int) (E : Int → Int) (Ab : Int → Int) (Mt : Int → Int) (Wt : Int → Int) (pp : Int) (k9 : Int) (mt : Int) (hwb : Nat) (Wb : Int → Int) (hf0 : f 21 = iv pl) (hf1 : f 28 = iv n) (hf2 : f 29 = iv ec) (hf3 : f 26 = iv mk) (hf4 : f 20 = rv hQ) (hf5 : f 23 = rv hB) (hf6 : f 24 = rv hE) (hf7 : f 33 = rv hA) (hf8 : f 34 = rv hM) (hf9 : f 35 = rv hW) (hf10 : f 22 = iv mt) (hf11 : f 36 = rv hwb) (hz : okZ pl n ec (c5 Q 3) (c5 Q 4) B E) (hx_pp : inR pp) (hx_k9 : inR k9) (hod : okDy pl mt (c5 Q 2) (c5 Q 1)) : AMi l yX12_odds cX12_odds 3 .int 14 0 0 [rv h0, iv pp, iv k9] [(h0, ob 11 f), (hQ, ar 30 Q), (hB, ar 6 B), (hE, ar 6 E), (hA, ar 1206 Ab), (hM, ar 180 Mt), (hW, ar 180 Wt), (hwb, ar 42 Wb)] (fun z u => ∃ A2 : Int → Int, ∃ M2 : Int → Int, ∃ W2 : Int → Int, ∃ Wb2 : Int → Int, z = aOddsR pl n ec mk mt (c5 Q 3) (c5 Q 4) B E (c5 Q 2) (c5 Q 1) pp k9 ∧ u = [(h0, ob 11 f), (hQ, ar 30 Q), (hB, ar 6 B), (hE, ar 6 E), (hA, ar 1206 A2), (hM, ar 180 M2), (hW, ar 180 W2), (hwb, ar 42 Wb2)]) := by
  refine AMi.of2 rfl (nle rfl) ?_
  intro D G A p e s m args below meth c Po hPo X
  have hz6 := hz.2.1
  have hz0 := hz.1
  have hzn := hz.2.2.1
  have hzm := hz.2.2.2.1
  have hze := hz.2.2.2.2
  refine S_aload_n X dX12_odds_0 rfl rfl ?_
  refine S_iload_n X dX12_odds_1 rfl rfl ?_
  refine S_calli X (kX12_isPlayer l h0 f pl pp hf0 (by omega) (by omega)) (is := [0]) rfl (run_V X lkX12_281 0 rfl rfl (is := [0]) (avs := [iv pp]) (rest := []) rfl rfl (nle rfl) ⟨nle rfl, nle rfl⟩ ⟨nle rfl, nle rfl⟩ dX12_odds_2 (by decide) rfl) (fun z_3 u_1 hp_2 => ?_)
  rcases hp_2 with ⟨hz_4, hu_5, hq_6⟩ | ⟨hz_7, hu_8, hq_9⟩
  ·
    subst hz_4
    subst hu_5
    refine ⟨rfl, ?_⟩
    refine S_w (ws' := [(h0, ob 11 f), (hQ, ar 30 Q), (hB, ar 6 B), (hE, ar 6 E), (hA, ar 1206 Ab), (hM, ar 180 Mt), (hW, ar 180 Wt), (hwb, ar 42 Wb)]) rfl ?_
    refine S_if_eq (tgt := 28) X dX12_odds_5 (by decide) (by decide) (fun _ => ?_) (fun h9 => absurd h9 (by decide))
    refine S_iconst X dX12_odds_28 ?_
    exact S_iret X (nle rfl) (nle rfl) dX12_odds_29 (hPo _ _ (⟨_, _, _, _, by unfold aOddsR; rw [if_neg (by omega)], rfl⟩))
  ·
    subst hz_7
    subst hu_8
    refine ⟨rfl, ?_⟩
    refine S_w (ws' := [(h0, ob 11 f), (hQ, ar 30 Q), (hB, ar 6 B), (hE, ar 6 E), (hA, ar 1206 Ab), (hM, ar 180 Mt), (hW, ar 180 Wt), (hwb, ar 42 Wb)]) rfl ?_
    refine S_if_eq (tgt := 28) X dX12_odds_5 (by decide) (by decide) (fun h9 => absurd h9 (by decide)) (fun _ => ?_)
    refine S_iload_n X dX12_odds_8 rfl rfl ?_
    refine S_iconst X dX12_odds_9 ?_
    refine S_bipush X dX12_odds_10 rfl ?_
    refine S_calli X (kX12_in l k9 1 6 (by omega) (by omega) (by omega)) (is := []) rfl (run_S X lkX12_216 (is := []) (avs := [iv k9, iv 1, iv 6]) (rest := []) rfl rfl (nle rfl) ⟨nle rfl, nle rfl⟩ ⟨nle rfl, nle rfl⟩ dX12_odds_12 (by decide) rfl) (fun z_14 u_12 hp_13 => ?_)
    rcases hp_13 with ⟨hz_15, hu_16, hq_17⟩ | ⟨hz_18, hu_19, hq_20⟩
    ·
      subst hz_15
      subst hu_16
      refine ⟨rfl, ?_⟩
      refine S_w (ws' := [(h0, ob 11 f), (hQ, ar 30 Q), (hB, ar 6 B), (hE, ar 6 E), (hA, ar 1206 Ab), (hM, ar 180 Mt), (hW, ar 180 Wt), (hwb, ar 42 Wb)]) rfl ?_
      refine S_if_eq (tgt := 28) X dX12_odds_15 (by decide) (by decide) (fun _ => ?_) (fun h9 => absurd h9 (by decide))
      refine S_iconst X dX12_odds_28 ?_
      exact S_iret X (nle rfl) (nle rfl) dX12_odds_29 (hPo _ _ (⟨_, _, _, _, by unfold aOddsR; rw [if_neg (by omega)], rfl⟩))
    ·
      subst hz_18
      subst hu_19
      refine ⟨rfl, ?_⟩
      refine S_w (ws' := [(h0, ob 11 f), (hQ, ar 30 Q), (hB, ar 6 B), (hE, ar 6 E), (hA, ar 1206 Ab), (hM, ar 180 Mt), (hW, ar 180 Wt), (hwb, ar 42 Wb)]) rfl ?_
      refine S_if_eq (tgt := 28) X dX12_odds_15 (by decide) (by decide) (fun h9 => absurd h9 (by decide)) (fun _ => ?_)
      have hok := hz.s (by omega)
      have hpl := hok.2.1
      have hpl1 := hok.1
      have hn1 := hok.2.2.1
      have hn2 := hok.2.2.2.1
      have hec := hok.2.2.2.2
      refine S_aload_n X dX12_odds_18 rfl rfl ?_
      refine S_iconst X dX12_odds_19 ?_
      refine S_iload_n X dX12_odds_20 rfl rfl ?_
      refine S_iload_n X dX12_odds_21 rfl rfl ?_
      refine S_calli X ((od_all l k9.toNat) h0 f pl n ec mk hQ hB hE hA hM hW Q B E Ab Mt Wt mt hwb Wb 0 k9 pp hf0 hf1 hf2 hf3 hf4 hf5 hf6 hf7 hf8 hf9 hf10 hf11 hok hod (by omega) (by omega)) (is := [0, 1, 2, 3, 4, 5, 6, 7]) rfl (run_V X lkX12_349 0 rfl rfl (is := [0, 1, 2, 3, 4, 5, 6, 7]) (avs := [iv 0, iv k9, iv pp]) (rest := []) rfl rfl (nle rfl) ⟨by simp only [rmD]; omega, by simp only [rmD]; omega⟩ ⟨nle rfl, nle rfl⟩ dX12_odds_22 (by decide) rfl) (fun z_25 u_23 hp_24 => ?_)
      obtain ⟨A2_26, M2_27, W2_28, Wb2_29, hz_30, hu_31, hWb_32⟩ := hp_24
      subst hz_30
      subst hu_31
      refine ⟨rfl, ?_⟩
      refine S_w (ws' := [(h0, ob 11 f), (hQ, ar 30 Q), (hB, ar 6 B), (hE, ar 6 E), (hA, ar 1206 A2_26), (hM, ar 180 M2_27), (hW, ar 180 W2_28), (hwb, ar 42 Wb2_29)]) rfl ?_
      refine S_goto (tgt := 29) X dX12_odds_25 (by decide) ?_
      exact S_iret X (nle rfl) (nle rfl) dX12_odds_29 (hPo _ _ (⟨_, _, _, _, by unfold aOddsR; rw [if_pos (by omega)], rfl⟩))
set_option maxHeartbeats 4000000 in
set_option maxRecDepth 100000 in
theorem kX12_marksFrom (l : Launch) (h0 : Nat) (f : Nat → AV) (pl : Int) (n : Int) (ec : Int) (hE : Nat) (hA : Nat) (Q : Int → Int) (B : Int → Int) (E : Int → Int) (Ab : Int → Int) (lim : Int) (hff : Nat) (hbf : Nat) (hsu : Nat) (Ff : Int → Int) (Bf : Int → Int) (Su : Int → Int) (fr : Int) (hf0 : f 21 = iv pl) (hf1 : f 28 = iv n) (hf2 : f 24 = rv hE) (hf3 : f 33 = rv hA) (hf4 : f 30 = iv lim) (hf5 : f 40 = rv hff) (hf6 : f 41 = rv hbf) (hf7 : f 42 = rv hsu) (hok : okS pl n ec (c5 Q 3) (c5 Q 4) B E) (hr : reg Ab (bF ec (c5 Q 3) (c5 Q 4) B) pl n 0) (hfr : 0 ≤ fr ∧ fr < n) (hlim : 0 ≤ lim ∧ lim ≤ 999) (hFr : ∀ j, fr < j → j < n → -1 ≤ Ff j ∧ Ff j ≤ n - 1 - j) (hBr : ∀ j, inR (Bf j)) (hRr : ∀ j, fr < j → j < n → RB (fun ms => Fu (gdM pl lim (fun b p => bF ec (c5 Q 3) (c5 Q 4) B b p + E p)) n ms j) (Ff j) (Bf j)) : AMv l yX12_marksFrom cX12_marksFrom 7 1 0 0 [rv h0, iv fr] [(h0, ob 11 f), (hA, ar 1206 Ab), (hE, ar 6 E), (hff, ar 31 Ff), (hbf, ar 31 Bf), (hsu, ar 6 Su)] (fun u => ∃ F2 : Int → Int, ∃ B2 : Int → Int, ∃ S2 : Int → Int, u = [(h0, ob 11 f), (hA, ar 1206 Ab), (hE, ar 6 E), (hff, ar 31 F2), (hbf, ar 31 B2), (hsu, ar 6 S2)] ∧ (∀ j, fr ≤ j → j < n → -1 ≤ F2 j ∧ F2 j ≤ n - 1 - j) ∧ (∀ j, inR (B2 j)) ∧ (∀ j, fr ≤ j → j < n → RB (fun ms => Fu (gdM pl lim (fun b p => bF ec (c5 Q 3) (c5 Q 4) B b p + E p)) n ms j) (F2 j) (B2 j))) := by
  refine AMv.of2 rfl (nle rfl) ?_
  intro D G A p e s m args below meth c Po hPo hnm X
  have hpl := hok.2.1
  have hpl1 := hok.1
  have hn1 := hok.2.2.1
  have hn2 := hok.2.2.2.1
  have hec := hok.2.2.2.2
  refine S_aload_n X dX12_marksFrom_0 rfl rfl ?_
  refine S_get X fgX12_80_11 0 rfl hf5 dX12_marksFrom_1 ?_
  refine S_iload_n X dX12_marksFrom_4 rfl rfl ?_
  refine S_iconst X dX12_marksFrom_5 ?_
  refine S_iast X 3 rfl (by omega) (by omega) (nle rfl) dX12_marksFrom_6 ?_
  refine S_w (ws' := [(h0, ob 11 f), (hA, ar 1206 Ab), (hE, ar 6 E), (hff, ar 31 (uZ Ff fr (-1))), (hbf, ar 31 Bf), (hsu, ar 6 Su)]) rfl ?_
  refine S_iconst X dX12_marksFrom_7 ?_
  refine S_istore_n X dX12_marksFrom_8 rfl (nle rfl) ?_
  have lp9_0 : ∀ (N : Nat) (i : Int) (Sv : Int → Int) (L : Nat → Option AV), 0 ≤ i ∧ i ≤ pl → (∀ x, 0 ≤ x → x < i → Sv x = 0) → L 0 = some (rv h0) → L 1 = some (iv fr) → L 2 = some (iv i) → pl + 1 - i < (N : Int) → S_ p l e (rmD 1 0 0) s m args below meth c (MQ below (QcV D G A Po) args s 0 0 A) D G A 7 0 0 9 L [] [(h0, ob 11 f), (hA, ar 1206 Ab), (hE, ar 6 E), (hff, ar 31 (uZ Ff fr (-1))), (hbf, ar 31 Bf), (hsu, ar 6 Sv)] := by
    intro N
    induction N with
    | zero =>
      intro i Sv L9 hi hz hL9_0 hL9_1 hL9_2 hN9
      exfalso; omega
    | succ N ih9 =>
      intro i Sv L9 hi hz hL9_0 hL9_1 hL9_2 hN9
      refine S_iload_n X dX12_marksFrom_9 rfl hL9_2 ?_
      refine S_aload_n X dX12_marksFrom_10 rfl hL9_0 ?_
      refine S_get X fgX12_253_11 0 rfl hf0 dX12_marksFrom_11 ?_
      refine S_icmp_ge (tgt := 30) X dX12_marksFrom_14 (by decide) (by omega) (by omega) (fun c_1 => ?_) (fun c_1 => ?_)
      ·
        refine S_iload_n X dX12_marksFrom_30 rfl hL9_1 ?_
        refine S_istore_n X dX12_marksFrom_31 rfl (nle rfl) ?_
        have lp32_3 : ∀ (N : Nat) (b : Int) (Fv : Int → Int) (Bv : Int → Int) (Sw : Int → Int) (L : Nat → Option AV), fr ≤ b ∧ b ≤ n → (∀ j, fr ≤ j → j < n → -1 ≤ Fv j ∧ Fv j ≤ n - 1 - j) → (∀ j, inR (Bv j)) → (∀ x, 0 ≤ x → x < pl → 0 ≤ Sw x ∧ Sw x ≤ 249 * (b - fr)) → (∀ x, 0 ≤ x → x < pl → Sw x = sgM (fun b p => bF ec (c5 Q 3) (c5 Q 4) B b p + E p) fr b x) → (∀ c, fr ≤ c → c < b → spM pl (fun b p => bF ec (c5 Q 3) (c5 Q 4) B b p + E p) fr c ≤ lim) → (∀ j, fr < j → j < n → RB (fun ms => Fu (gdM pl lim (fun b p => bF ec (c5 Q 3) (c5 Q 4) B b p + E p)) n ms j) (Fv j) (Bv j)) → RB (SBk (gdM pl lim (fun b p => bF ec (c5 Q 3) (c5 Q 4) B b p + E p)) n fr b) (Fv fr) (Bv fr) → L 0 = some (rv h0) → L 1 = some (iv fr) → L 2 = some (iv b) → n + 1 - b < (N : Int) → S_ p l e (rmD 1 0 0) s m args below meth c (MQ below (QcV D G A Po) args s 0 0 A) D G A 7 0 0 32 L [] [(h0, ob 11 f), (hA, ar 1206 Ab), (hE, ar 6 E), (hff, ar 31 Fv), (hbf, ar 31 Bv), (hsu, ar 6 Sw)] := by
          intro N
          induction N with
          | zero =>
            intro b Fv Bv Sw L32 hb hFv hBv hSw hSv hgd hRo hRf hL32_0 hL32_1 hL32_2 hN32
            exfalso; omega
          | succ N ih32 =>
            intro b Fv Bv Sw L32 hb hFv hBv hSw hSv hgd hRo hRf hL32_0 hL32_1 hL32_2 hN32
            refine S_iload_n X dX12_marksFrom_32 rfl hL32_2 ?_
            refine S_aload_n X dX12_marksFrom_33 rfl hL32_0 ?_
            refine S_get X fgX12_56_11 0 rfl hf1 dX12_marksFrom_34 ?_
            refine S_icmp_ge (tgt := 287) X dX12_marksFrom_37 (by decide) (by omega) (by omega) (fun c_2 => ?_) (fun c_2 => ?_)
            ·
              exact S_vret X (nle rfl) (nle rfl) dX12_marksFrom_287 (hPo _ (⟨_, _, _, rfl, hFv, hBv, fun j j0 j1 => (by omega : j = fr ∨ fr < j).elim (fun q9 => by rw [q9]; exact RB_e (SB_end (by omega)) hRf) (hRo j · j1)⟩))
            ·
              refine S_iconst X dX12_marksFrom_40 ?_
              refine S_istore_n X dX12_marksFrom_41 rfl (nle rfl) ?_
              refine S_iconst X dX12_marksFrom_42 ?_
              refine S_istore X dX12_marksFrom_43 (nle rfl) ?_
              refine S_iconst X dX12_marksFrom_45 ?_
              refine S_istore X dX12_marksFrom_46 (nle rfl) ?_
              have lp48_6 : ∀ (N : Nat) (i : Int) (lo : Int) (hi9 : Int) (Sx : Int → Int) (L : Nat → Option AV), 0 ≤ i ∧ i ≤ pl → 0 ≤ lo ∧ lo ≤ 7470 → 0 ≤ hi9 ∧ hi9 ≤ 7470 → (∀ x, 0 ≤ x → x < i → 0 ≤ Sx x ∧ Sx x ≤ 249 * (b - fr + 1)) → (∀ x, i ≤ x → x < pl → 0 ≤ Sx x ∧ Sx x ≤ 249 * (b - fr)) → (∀ x, 0 ≤ x → x < i → Sx x = sgM (fun b p => bF ec (c5 Q 3) (c5 Q 4) B b p + E p) fr (b + 1) x) → (∀ x, i ≤ x → x < pl → Sx x = sgM (fun b p => bF ec (c5 Q 3) (c5 Q 4) B b p + E p) fr b x) → hi9 = mxI (sgM (fun b p => bF ec (c5 Q 3) (c5 Q 4) B b p + E p) fr (b + 1)) i → (1 ≤ i → lo = mnI (sgM (fun b p => bF ec (c5 Q 3) (c5 Q 4) B b p + E p) fr (b + 1)) i) → L 0 = some (rv h0) → L 1 = some (iv fr) → L 2 = some (iv b) → L 3 = some (iv lo) → L 4 = some (iv hi9) → L 5 = some (iv i) → pl + 1 - i < (N : Int) → S_ p l e (rmD 1 0 0) s m args below meth c (MQ below (QcV D G A Po) args s 0 0 A) D G A 7 0 0 48 L [] [(h0, ob 11 f), (hA, ar 1206 Ab), (hE, ar 6 E), (hff, ar 31 Fv), (hbf, ar 31 Bv), (hsu, ar 6 Sx)] := by
                intro N
                induction N with
                | zero =>
                  intro i lo hi9 Sx L48 hi hlo hhi hS1 hS2 hX1 hX2 hm1 hm2 hL48_0 hL48_1 hL48_2 hL48_3 hL48_4 hL48_5 hN48
                  exfalso; omega
                | succ N ih48 =>
                  intro i lo hi9 Sx L48 hi hlo hhi hS1 hS2 hX1 hX2 hm1 hm2 hL48_0 hL48_1 hL48_2 hL48_3 hL48_4 hL48_5 hN48
                  refine S_iload X dX12_marksFrom_48 hL48_5 ?_
                  refine S_aload_n X dX12_marksFrom_50 rfl hL48_0 ?_
                  refine S_get X fgX12_253_11 0 rfl hf0 dX12_marksFrom_51 ?_
                  refine S_icmp_ge (tgt := 134) X dX12_marksFrom_54 (by decide) (by omega) (by omega) (fun c_3 => ?_) (fun c_3 => ?_)
                  ·
                    refine S_iload X dX12_marksFrom_134 hL48_4 ?_
                    refine S_iload_n X dX12_marksFrom_136 rfl hL48_3 ?_
                    refine S_isub X dX12_marksFrom_137 ?_
                    refine S_aload_n X dX12_marksFrom_138 rfl hL48_0 ?_
                    refine S_get X fgX12_59_11 0 rfl hf4 dX12_marksFrom_139 ?_
                    refine S_icmp_le (tgt := 146) X dX12_marksFrom_142 (by decide) (by omega) (by omega) (fun c_4 => ?_) (fun c_4 => ?_)
                    ·
                      have hip : i = pl := by omega
                      have hsp : spM pl (fun b p => bF ec (c5 Q 3) (c5 Q 4) B b p + E p) fr b ≤ lim := by unfold spM; have q1 := hm1; have q2 := hm2 (by omega); rw [hip] at q1 q2; omega
                      refine S_iload_n X dX12_marksFrom_146 rfl hL48_2 ?_
                      refine S_aload_n X dX12_marksFrom_147 rfl hL48_0 ?_
                      refine S_get X fgX12_56_11 0 rfl hf1 dX12_marksFrom_148 ?_
                      refine S_iconst X dX12_marksFrom_151 ?_
                      refine S_isub X dX12_marksFrom_152 ?_
                      refine S_icmp_ne (tgt := 160) X dX12_marksFrom_153 (by decide) (by omega) (by omega) (fun c_5 => ?_) (fun c_5 => ?_)
                      ·
                        have hf9 := hFv (b + 1) (by omega) (by omega)
                        refine S_aload_n X dX12_marksFrom_160 rfl hL48_0 ?_
                        refine S_get X fgX12_80_11 0 rfl hf5 dX12_marksFrom_161 ?_
                        refine S_iload_n X dX12_marksFrom_164 rfl hL48_2 ?_
                        refine S_iconst X dX12_marksFrom_165 ?_
                        refine S_iadd X dX12_marksFrom_166 ?_
                        refine S_iald X 3 rfl (by omega) (by omega) (nle rfl) dX12_marksFrom_167 ?_
                        refine S_iconst X dX12_marksFrom_168 ?_
                        refine S_icmp_ne (tgt := 176) X dX12_marksFrom_169 (by decide) (by omega) (by decide) (fun c_6 => ?_) (fun c_6 => ?_)
                        ·
                          refine S_aload_n X dX12_marksFrom_176 rfl hL48_0 ?_
                          refine S_get X fgX12_80_11 0 rfl hf5 dX12_marksFrom_177 ?_
                          refine S_iload_n X dX12_marksFrom_180 rfl hL48_2 ?_
                          refine S_iconst X dX12_marksFrom_181 ?_
                          refine S_iadd X dX12_marksFrom_182 ?_
                          refine S_iald X 3 rfl (by omega) (by omega) (nle rfl) dX12_marksFrom_183 ?_
                          refine S_iconst X dX12_marksFrom_184 ?_
                          refine S_iadd X dX12_marksFrom_185 ?_
                          refine S_istore X dX12_marksFrom_186 (nle rfl) ?_
                          refine S_iload_n X dX12_marksFrom_188 rfl hL48_2 ?_
                          refine S_aload_n X dX12_marksFrom_189 rfl hL48_0 ?_
                          refine S_get X fgX12_56_11 0 rfl hf1 dX12_marksFrom_190 ?_
                          refine S_iconst X dX12_marksFrom_193 ?_
                          refine S_isub X dX12_marksFrom_194 ?_
                          refine S_icmp_ne (tgt := 202) X dX12_marksFrom_195 (by decide) (by omega) (by omega) (fun c_7 => ?_) (fun c_7 => ?_)
                          ·
                            have hb9 := hBv (b + 1)
                            refine S_aload_n X dX12_marksFrom_202 rfl hL48_0 ?_
                            refine S_get X fgX12_83_11 0 rfl hf6 dX12_marksFrom_203 ?_
                            refine S_iload_n X dX12_marksFrom_206 rfl hL48_2 ?_
                            refine S_iconst X dX12_marksFrom_207 ?_
                            refine S_iadd X dX12_marksFrom_208 ?_
                            refine S_iald X 4 rfl (by omega) (by omega) (nle rfl) dX12_marksFrom_209 ?_
                            refine S_iconst X dX12_marksFrom_210 ?_
                            refine S_iload_n X dX12_marksFrom_211 rfl hL48_2 ?_
                            refine S_ishl X dX12_marksFrom_212 ?_
                            refine S_ior X dX12_marksFrom_213 ?_
                            refine S_istore X dX12_marksFrom_214 (nle rfl) ?_
                            refine S_iload X dX12_marksFrom_216 rfl ?_
                            refine S_iconst X dX12_marksFrom_218 ?_
                            refine S_icmp_eq (tgt := 281) X dX12_marksFrom_219 (by decide) (by omega) (by decide) (fun c_8 => ?_) (fun c_8 => ?_)
                            ·
                              refine S_iinc X dX12_marksFrom_281 (nle rfl) hL48_2 ?_
                              refine S_goto (tgt := 32) X dX12_marksFrom_284 (by decide) ?_
                              exact ih32 (b + 1) Fv Bv Sx _ (by omega) (hFv) (hBv) (fun x h0 h1 => by have := hS1 x h0 (by omega); omega) (fun x h0 h1 => hX1 x h0 (by omega)) (fun c c0 c1 => (by omega : c < b ∨ c = b).elim (hgd c c0) (fun q9 => by rw [q9]; exact hsp)) (hRo) (by first | exact mb_keep hRf (cand_mid (by omega) (by omega) (by omega) (by omega) (gdM_S hgd hsp) (hRo (b + 1) (by omega) (by omega)) (by omega)) (by omega) | (exfalso; omega)) hL48_0 hL48_1 rfl (by omega)
                            ·
                              have hf8 := hFv fr (by omega) (by omega)
                              have hb8 := hBv fr
                              refine S_aload_n X dX12_marksFrom_222 rfl hL48_0 ?_
                              refine S_get X fgX12_80_11 0 rfl hf5 dX12_marksFrom_223 ?_
                              refine S_iload_n X dX12_marksFrom_226 rfl hL48_1 ?_
                              refine S_iald X 3 rfl (by omega) (by omega) (nle rfl) dX12_marksFrom_227 ?_
                              refine S_iconst X dX12_marksFrom_228 ?_
                              refine S_icmp_eq (tgt := 265) X dX12_marksFrom_229 (by decide) (by omega) (by decide) (fun c_9 => ?_) (fun c_9 => ?_)
                              ·
                                refine S_aload_n X dX12_marksFrom_265 rfl hL48_0 ?_
                                refine S_get X fgX12_80_11 0 rfl hf5 dX12_marksFrom_266 ?_
                                refine S_iload_n X dX12_marksFrom_269 rfl hL48_1 ?_
                                refine S_iload X dX12_marksFrom_270 rfl ?_
                                refine S_iast X 3 rfl (by omega) (by omega) (nle rfl) dX12_marksFrom_272 ?_
                                refine S_w (ws' := [(h0, ob 11 f), (hA, ar 1206 Ab), (hE, ar 6 E), (hff, ar 31 (uZ Fv fr ((Fv (b + 1)) + 1))), (hbf, ar 31 Bv), (hsu, ar 6 Sx)]) rfl ?_
                                refine S_aload_n X dX12_marksFrom_273 rfl hL48_0 ?_
                                refine S_get X fgX12_83_11 0 rfl hf6 dX12_marksFrom_274 ?_
                                refine S_iload_n X dX12_marksFrom_277 rfl hL48_1 ?_
                                refine S_iload X dX12_marksFrom_278 rfl ?_
                                refine S_iast X 4 rfl (by omega) (by omega) (nle rfl) dX12_marksFrom_280 ?_
                                refine S_w (ws' := [(h0, ob 11 f), (hA, ar 1206 Ab), (hE, ar 6 E), (hff, ar 31 (uZ Fv fr ((Fv (b + 1)) + 1))), (hbf, ar 31 (uZ Bv fr (zOr (Bv (b + 1)) (zShl 1 b)))), (hsu, ar 6 Sx)]) rfl ?_
                                refine S_iinc X dX12_marksFrom_281 (nle rfl) hL48_2 ?_
                                refine S_goto (tgt := 32) X dX12_marksFrom_284 (by decide) ?_
                                exact ih32 (b + 1) (uZ Fv fr ((Fv (b + 1)) + 1)) (uZ Bv fr (zOr (Bv (b + 1)) (zShl 1 b))) Sx _ (by omega) (fun j j0 j1 => (by omega : j = fr ∨ fr < j).elim (fun q9 => by rw [q9, uZ_at]; omega) (fun q9 => by rw [uZ_ne (by omega)]; exact hFv j j0 j1)) (uZ_all hBv (zOr_r _ _)) (fun x h0 h1 => by have := hS1 x h0 (by omega); omega) (fun x h0 h1 => hX1 x h0 (by omega)) (fun c c0 c1 => (by omega : c < b ∨ c = b).elim (hgd c c0) (fun q9 => by rw [q9]; exact hsp)) (fun j j0 j1 => by rw [uZ_ne (by omega), uZ_ne (by omega)]; exact hRo j j0 j1) (by rw [uZ_at, uZ_at]; first | exact mb_take hRf (cand_mid (by omega) (by omega) (by omega) (by omega) (gdM_S hgd hsp) (hRo (b + 1) (by omega) (by omega)) (by omega)) (by omega) | (exfalso; omega)) hL48_0 hL48_1 rfl (by omega)
                              ·
                                refine S_iload X dX12_marksFrom_232 rfl ?_
                                refine S_aload_n X dX12_marksFrom_234 rfl hL48_0 ?_
                                refine S_get X fgX12_80_11 0 rfl hf5 dX12_marksFrom_235 ?_
                                refine S_iload_n X dX12_marksFrom_238 rfl hL48_1 ?_
                                refine S_iald X 3 rfl (by omega) (by omega) (nle rfl) dX12_marksFrom_239 ?_
                                refine S_icmp_lt (tgt := 265) X dX12_marksFrom_240 (by decide) (by omega) (by omega) (fun c_10 => ?_) (fun c_10 => ?_)
                                ·
                                  refine S_aload_n X dX12_marksFrom_265 rfl hL48_0 ?_
                                  refine S_get X fgX12_80_11 0 rfl hf5 dX12_marksFrom_266 ?_
                                  refine S_iload_n X dX12_marksFrom_269 rfl hL48_1 ?_
                                  refine S_iload X dX12_marksFrom_270 rfl ?_
                                  refine S_iast X 3 rfl (by omega) (by omega) (nle rfl) dX12_marksFrom_272 ?_
                                  refine S_w (ws' := [(h0, ob 11 f), (hA, ar 1206 Ab), (hE, ar 6 E), (hff, ar 31 (uZ Fv fr ((Fv (b + 1)) + 1))), (hbf, ar 31 Bv), (hsu, ar 6 Sx)]) rfl ?_
                                  refine S_aload_n X dX12_marksFrom_273 rfl hL48_0 ?_
                                  refine S_get X fgX12_83_11 0 rfl hf6 dX12_marksFrom_274 ?_
                                  refine S_iload_n X dX12_marksFrom_277 rfl hL48_1 ?_
                                  refine S_iload X dX12_marksFrom_278 rfl ?_
                                  refine S_iast X 4 rfl (by omega) (by omega) (nle rfl) dX12_marksFrom_280 ?_
                                  refine S_w (ws' := [(h0, ob 11 f), (hA, ar 1206 Ab), (hE, ar 6 E), (hff, ar 31 (uZ Fv fr ((Fv (b + 1)) + 1))), (hbf, ar 31 (uZ Bv fr (zOr (Bv (b + 1)) (zShl 1 b)))), (hsu, ar 6 Sx)]) rfl ?_
                                  refine S_iinc X dX12_marksFrom_281 (nle rfl) hL48_2 ?_
                                  refine S_goto (tgt := 32) X dX12_marksFrom_284 (by decide) ?_
                                  exact ih32 (b + 1) (uZ Fv fr ((Fv (b + 1)) + 1)) (uZ Bv fr (zOr (Bv (b + 1)) (zShl 1 b))) Sx _ (by omega) (fun j j0 j1 => (by omega : j = fr ∨ fr < j).elim (fun q9 => by rw [q9, uZ_at]; omega) (fun q9 => by rw [uZ_ne (by omega)]; exact hFv j j0 j1)) (uZ_all hBv (zOr_r _ _)) (fun x h0 h1 => by have := hS1 x h0 (by omega); omega) (fun x h0 h1 => hX1 x h0 (by omega)) (fun c c0 c1 => (by omega : c < b ∨ c = b).elim (hgd c c0) (fun q9 => by rw [q9]; exact hsp)) (fun j j0 j1 => by rw [uZ_ne (by omega), uZ_ne (by omega)]; exact hRo j j0 j1) (by rw [uZ_at, uZ_at]; first | exact mb_take hRf (cand_mid (by omega) (by omega) (by omega) (by omega) (gdM_S hgd hsp) (hRo (b + 1) (by omega) (by omega)) (by omega)) (by omega) | (exfalso; omega)) hL48_0 hL48_1 rfl (by omega)
                                ·
                                  refine S_iload X dX12_marksFrom_243 rfl ?_
                                  refine S_aload_n X dX12_marksFrom_245 rfl hL48_0 ?_
                                  refine S_get X fgX12_80_11 0 rfl hf5 dX12_marksFrom_246 ?_
                                  refine S_iload_n X dX12_marksFrom_249 rfl hL48_1 ?_
                                  refine S_iald X 3 rfl (by omega) (by omega) (nle rfl) dX12_marksFrom_250 ?_
                                  refine S_icmp_ne (tgt := 281) X dX12_marksFrom_251 (by decide) (by omega) (by omega) (fun c_11 => ?_) (fun c_11 => ?_)
                                  ·
                                    refine S_iinc X dX12_marksFrom_281 (nle rfl) hL48_2 ?_
                                    refine S_goto (tgt := 32) X dX12_marksFrom_284 (by decide) ?_
                                    exact ih32 (b + 1) Fv Bv Sx _ (by omega) (hFv) (hBv) (fun x h0 h1 => by have := hS1 x h0 (by omega); omega) (fun x h0 h1 => hX1 x h0 (by omega)) (fun c c0 c1 => (by omega : c < b ∨ c = b).elim (hgd c c0) (fun q9 => by rw [q9]; exact hsp)) (hRo) (by first | exact mb_keep hRf (cand_mid (by omega) (by omega) (by omega) (by omega) (gdM_S hgd hsp) (hRo (b + 1) (by omega) (by omega)) (by omega)) (by omega) | (exfalso; omega)) hL48_0 hL48_1 rfl (by omega)
                                  ·
                                    refine S_iload X dX12_marksFrom_254 rfl ?_
                                    refine S_aload_n X dX12_marksFrom_256 rfl hL48_0 ?_
                                    refine S_get X fgX12_83_11 0 rfl hf6 dX12_marksFrom_257 ?_
                                    refine S_iload_n X dX12_marksFrom_260 rfl hL48_1 ?_
                                    refine S_iald X 4 rfl (by omega) (by omega) (nle rfl) dX12_marksFrom_261 ?_
                                    have hzr := zOr_r (Bv (b + 1)) (zShl 1 b)
                                    refine S_icmp_ge (tgt := 281) X dX12_marksFrom_262 (by decide) (by omega) (by omega) (fun c_12 => ?_) (fun c_12 => ?_)
                                    ·
                                      refine S_iinc X dX12_marksFrom_281 (nle rfl) hL48_2 ?_
                                      refine S_goto (tgt := 32) X dX12_marksFrom_284 (by decide) ?_
                                      exact ih32 (b + 1) Fv Bv Sx _ (by omega) (hFv) (hBv) (fun x h0 h1 => by have := hS1 x h0 (by omega); omega) (fun x h0 h1 => hX1 x h0 (by omega)) (fun c c0 c1 => (by omega : c < b ∨ c = b).elim (hgd c c0) (fun q9 => by rw [q9]; exact hsp)) (hRo) (by first | exact mb_keep hRf (cand_mid (by omega) (by omega) (by omega) (by omega) (gdM_S hgd hsp) (hRo (b + 1) (by omega) (by omega)) (by omega)) (by omega) | (exfalso; omega)) hL48_0 hL48_1 rfl (by omega)
                                    ·
                                      refine S_aload_n X dX12_marksFrom_265 rfl hL48_0 ?_
                                      refine S_get X fgX12_80_11 0 rfl hf5 dX12_marksFrom_266 ?_
                                      refine S_iload_n X dX12_marksFrom_269 rfl hL48_1 ?_
                                      refine S_iload X dX12_marksFrom_270 rfl ?_
                                      refine S_iast X 3 rfl (by omega) (by omega) (nle rfl) dX12_marksFrom_272 ?_
                                      refine S_w (ws' := [(h0, ob 11 f), (hA, ar 1206 Ab), (hE, ar 6 E), (hff, ar 31 (uZ Fv fr ((Fv (b + 1)) + 1))), (hbf, ar 31 Bv), (hsu, ar 6 Sx)]) rfl ?_
                                      refine S_aload_n X dX12_marksFrom_273 rfl hL48_0 ?_
                                      refine S_get X fgX12_83_11 0 rfl hf6 dX12_marksFrom_274 ?_
                                      refine S_iload_n X dX12_marksFrom_277 rfl hL48_1 ?_
                                      refine S_iload X dX12_marksFrom_278 rfl ?_
                                      refine S_iast X 4 rfl (by omega) (by omega) (nle rfl) dX12_marksFrom_280 ?_
                                      refine S_w (ws' := [(h0, ob 11 f), (hA, ar 1206 Ab), (hE, ar 6 E), (hff, ar 31 (uZ Fv fr ((Fv (b + 1)) + 1))), (hbf, ar 31 (uZ Bv fr (zOr (Bv (b + 1)) (zShl 1 b)))), (hsu, ar 6 Sx)]) rfl ?_
                                      refine S_iinc X dX12_marksFrom_281 (nle rfl) hL48_2 ?_
                                      refine S_goto (tgt := 32) X dX12_marksFrom_284 (by decide) ?_
                                      exact ih32 (b + 1) (uZ Fv fr ((Fv (b + 1)) + 1)) (uZ Bv fr (zOr (Bv (b + 1)) (zShl 1 b))) Sx _ (by omega) (fun j j0 j1 => (by omega : j = fr ∨ fr < j).elim (fun q9 => by rw [q9, uZ_at]; omega) (fun q9 => by rw [uZ_ne (by omega)]; exact hFv j j0 j1)) (uZ_all hBv (zOr_r _ _)) (fun x h0 h1 => by have := hS1 x h0 (by omega); omega) (fun x h0 h1 => hX1 x h0 (by omega)) (fun c c0 c1 => (by omega : c < b ∨ c = b).elim (hgd c c0) (fun q9 => by rw [q9]; exact hsp)) (fun j j0 j1 => by rw [uZ_ne (by omega), uZ_ne (by omega)]; exact hRo j j0 j1) (by rw [uZ_at, uZ_at]; first | exact mb_take hRf (cand_mid (by omega) (by omega) (by omega) (by omega) (gdM_S hgd hsp) (hRo (b + 1) (by omega) (by omega)) (by omega)) (by omega) | (exfalso; omega)) hL48_0 hL48_1 rfl (by omega)
                          ·
                            refine S_iconst X dX12_marksFrom_198 ?_
                            refine S_goto (tgt := 214) X dX12_marksFrom_199 (by decide) ?_
                            refine S_istore X dX12_marksFrom_214 (nle rfl) ?_
                            refine S_iload X dX12_marksFrom_216 rfl ?_
                            refine S_iconst X dX12_marksFrom_218 ?_
                            refine S_icmp_eq (tgt := 281) X dX12_marksFrom_219 (by decide) (by omega) (by decide) (fun c_13 => ?_) (fun c_13 => ?_)
                            ·
                              refine S_iinc X dX12_marksFrom_281 (nle rfl) hL48_2 ?_
                              refine S_goto (tgt := 32) X dX12_marksFrom_284 (by decide) ?_
                              exact ih32 (b + 1) Fv Bv Sx _ (by omega) (hFv) (hBv) (fun x h0 h1 => by have := hS1 x h0 (by omega); omega) (fun x h0 h1 => hX1 x h0 (by omega)) (fun c c0 c1 => (by omega : c < b ∨ c = b).elim (hgd c c0) (fun q9 => by rw [q9]; exact hsp)) (hRo) (by first | exact mb_keep hRf (cand_mid (by omega) (by omega) (by omega) (by omega) (gdM_S hgd hsp) (hRo (b + 1) (by omega) (by omega)) (by omega)) (by omega) | (exfalso; omega)) hL48_0 hL48_1 rfl (by omega)
                            ·
                              have hf8 := hFv fr (by omega) (by omega)
                              have hb8 := hBv fr
                              refine S_aload_n X dX12_marksFrom_222 rfl hL48_0 ?_
                              refine S_get X fgX12_80_11 0 rfl hf5 dX12_marksFrom_223 ?_
                              refine S_iload_n X dX12_marksFrom_226 rfl hL48_1 ?_
                              refine S_iald X 3 rfl (by omega) (by omega) (nle rfl) dX12_marksFrom_227 ?_
                              refine S_iconst X dX12_marksFrom_228 ?_
                              refine S_icmp_eq (tgt := 265) X dX12_marksFrom_229 (by decide) (by omega) (by decide) (fun c_14 => ?_) (fun c_14 => ?_)
                              ·
                                refine S_aload_n X dX12_marksFrom_265 rfl hL48_0 ?_
                                refine S_get X fgX12_80_11 0 rfl hf5 dX12_marksFrom_266 ?_
                                refine S_iload_n X dX12_marksFrom_269 rfl hL48_1 ?_
                                refine S_iload X dX12_marksFrom_270 rfl ?_
                                refine S_iast X 3 rfl (by omega) (by omega) (nle rfl) dX12_marksFrom_272 ?_
                                refine S_w (ws' := [(h0, ob 11 f), (hA, ar 1206 Ab), (hE, ar 6 E), (hff, ar 31 (uZ Fv fr ((Fv (b + 1)) + 1))), (hbf, ar 31 Bv), (hsu, ar 6 Sx)]) rfl ?_
                                refine S_aload_n X dX12_marksFrom_273 rfl hL48_0 ?_
                                refine S_get X fgX12_83_11 0 rfl hf6 dX12_marksFrom_274 ?_
                                refine S_iload_n X dX12_marksFrom_277 rfl hL48_1 ?_
                                refine S_iload X dX12_marksFrom_278 rfl ?_
                                refine S_iast X 4 rfl (by omega) (by omega) (nle rfl) dX12_marksFrom_280 ?_
                                refine S_w (ws' := [(h0, ob 11 f), (hA, ar 1206 Ab), (hE, ar 6 E), (hff, ar 31 (uZ Fv fr ((Fv (b + 1)) + 1))), (hbf, ar 31 (uZ Bv fr 0)), (hsu, ar 6 Sx)]) rfl ?_
                                refine S_iinc X dX12_marksFrom_281 (nle rfl) hL48_2 ?_
                                refine S_goto (tgt := 32) X dX12_marksFrom_284 (by decide) ?_
                                exact ih32 (b + 1) (uZ Fv fr ((Fv (b + 1)) + 1)) (uZ Bv fr 0) Sx _ (by omega) (fun j j0 j1 => (by omega : j = fr ∨ fr < j).elim (fun q9 => by rw [q9, uZ_at]; omega) (fun q9 => by rw [uZ_ne (by omega)]; exact hFv j j0 j1)) (uZ_all hBv (by decide)) (fun x h0 h1 => by have := hS1 x h0 (by omega); omega) (fun x h0 h1 => hX1 x h0 (by omega)) (fun c c0 c1 => (by omega : c < b ∨ c = b).elim (hgd c c0) (fun q9 => by rw [q9]; exact hsp)) (fun j j0 j1 => by rw [uZ_ne (by omega), uZ_ne (by omega)]; exact hRo j j0 j1) (by rw [uZ_at, uZ_at]; first | exact mb_take hRf (cand_mid (by omega) (by omega) (by omega) (by omega) (gdM_S hgd hsp) (hRo (b + 1) (by omega) (by omega)) (by omega)) (by omega) | (exfalso; omega)) hL48_0 hL48_1 rfl (by omega)
                              ·
                                refine S_iload X dX12_marksFrom_232 rfl ?_
                                refine S_aload_n X dX12_marksFrom_234 rfl hL48_0 ?_
                                refine S_get X fgX12_80_11 0 rfl hf5 dX12_marksFrom_235 ?_
                                refine S_iload_n X dX12_marksFrom_238 rfl hL48_1 ?_
                                refine S_iald X 3 rfl (by omega) (by omega) (nle rfl) dX12_marksFrom_239 ?_
                                refine S_icmp_lt (tgt := 265) X dX12_marksFrom_240 (by decide) (by omega) (by omega) (fun c_15 => ?_) (fun c_15 => ?_)
                                ·
                                  refine S_aload_n X dX12_marksFrom_265 rfl hL48_0 ?_
                                  refine S_get X fgX12_80_11 0 rfl hf5 dX12_marksFrom_266 ?_
                                  refine S_iload_n X dX12_marksFrom_269 rfl hL48_1 ?_
                                  refine S_iload X dX12_marksFrom_270 rfl ?_
                                  refine S_iast X 3 rfl (by omega) (by omega) (nle rfl) dX12_marksFrom_272 ?_
                                  refine S_w (ws' := [(h0, ob 11 f), (hA, ar 1206 Ab), (hE, ar 6 E), (hff, ar 31 (uZ Fv fr ((Fv (b + 1)) + 1))), (hbf, ar 31 Bv), (hsu, ar 6 Sx)]) rfl ?_
                                  refine S_aload_n X dX12_marksFrom_273 rfl hL48_0 ?_
                                  refine S_get X fgX12_83_11 0 rfl hf6 dX12_marksFrom_274 ?_
                                  refine S_iload_n X dX12_marksFrom_277 rfl hL48_1 ?_
                                  refine S_iload X dX12_marksFrom_278 rfl ?_
                                  refine S_iast X 4 rfl (by omega) (by omega) (nle rfl) dX12_marksFrom_280 ?_
                                  refine S_w (ws' := [(h0, ob 11 f), (hA, ar 1206 Ab), (hE, ar 6 E), (hff, ar 31 (uZ Fv fr ((Fv (b + 1)) + 1))), (hbf, ar 31 (uZ Bv fr 0)), (hsu, ar 6 Sx)]) rfl ?_
                                  refine S_iinc X dX12_marksFrom_281 (nle rfl) hL48_2 ?_
                                  refine S_goto (tgt := 32) X dX12_marksFrom_284 (by decide) ?_
                                  exact ih32 (b + 1) (uZ Fv fr ((Fv (b + 1)) + 1)) (uZ Bv fr 0) Sx _ (by omega) (fun j j0 j1 => (by omega : j = fr ∨ fr < j).elim (fun q9 => by rw [q9, uZ_at]; omega) (fun q9 => by rw [uZ_ne (by omega)]; exact hFv j j0 j1)) (uZ_all hBv (by decide)) (fun x h0 h1 => by have := hS1 x h0 (by omega); omega) (fun x h0 h1 => hX1 x h0 (by omega)) (fun c c0 c1 => (by omega : c < b ∨ c = b).elim (hgd c c0) (fun q9 => by rw [q9]; exact hsp)) (fun j j0 j1 => by rw [uZ_ne (by omega), uZ_ne (by omega)]; exact hRo j j0 j1) (by rw [uZ_at, uZ_at]; first | exact mb_take hRf (cand_mid (by omega) (by omega) (by omega) (by omega) (gdM_S hgd hsp) (hRo (b + 1) (by omega) (by omega)) (by omega)) (by omega) | (exfalso; omega)) hL48_0 hL48_1 rfl (by omega)
                                ·
                                  refine S_iload X dX12_marksFrom_243 rfl ?_
                                  refine S_aload_n X dX12_marksFrom_245 rfl hL48_0 ?_
                                  refine S_get X fgX12_80_11 0 rfl hf5 dX12_marksFrom_246 ?_
                                  refine S_iload_n X dX12_marksFrom_249 rfl hL48_1 ?_
                                  refine S_iald X 3 rfl (by omega) (by omega) (nle rfl) dX12_marksFrom_250 ?_
                                  refine S_icmp_ne (tgt := 281) X dX12_marksFrom_251 (by decide) (by omega) (by omega) (fun c_16 => ?_) (fun c_16 => ?_)
                                  ·
                                    refine S_iinc X dX12_marksFrom_281 (nle rfl) hL48_2 ?_
                                    refine S_goto (tgt := 32) X dX12_marksFrom_284 (by decide) ?_
                                    exact ih32 (b + 1) Fv Bv Sx _ (by omega) (hFv) (hBv) (fun x h0 h1 => by have := hS1 x h0 (by omega); omega) (fun x h0 h1 => hX1 x h0 (by omega)) (fun c c0 c1 => (by omega : c < b ∨ c = b).elim (hgd c c0) (fun q9 => by rw [q9]; exact hsp)) (hRo) (by first | exact mb_keep hRf (cand_mid (by omega) (by omega) (by omega) (by omega) (gdM_S hgd hsp) (hRo (b + 1) (by omega) (by omega)) (by omega)) (by omega) | (exfalso; omega)) hL48_0 hL48_1 rfl (by omega)
                                  ·
                                    refine S_iload X dX12_marksFrom_254 rfl ?_
                                    refine S_aload_n X dX12_marksFrom_256 rfl hL48_0 ?_
                                    refine S_get X fgX12_83_11 0 rfl hf6 dX12_marksFrom_257 ?_
                                    refine S_iload_n X dX12_marksFrom_260 rfl hL48_1 ?_
                                    refine S_iald X 4 rfl (by omega) (by omega) (nle rfl) dX12_marksFrom_261 ?_
                                    have hzr := zOr_r (Bv (b + 1)) (zShl 1 b)
                                    refine S_icmp_ge (tgt := 281) X dX12_marksFrom_262 (by decide) (by decide) (by omega) (fun c_17 => ?_) (fun c_17 => ?_)
                                    ·
                                      refine S_iinc X dX12_marksFrom_281 (nle rfl) hL48_2 ?_
                                      refine S_goto (tgt := 32) X dX12_marksFrom_284 (by decide) ?_
                                      exact ih32 (b + 1) Fv Bv Sx _ (by omega) (hFv) (hBv) (fun x h0 h1 => by have := hS1 x h0 (by omega); omega) (fun x h0 h1 => hX1 x h0 (by omega)) (fun c c0 c1 => (by omega : c < b ∨ c = b).elim (hgd c c0) (fun q9 => by rw [q9]; exact hsp)) (hRo) (by first | exact mb_keep hRf (cand_mid (by omega) (by omega) (by omega) (by omega) (gdM_S hgd hsp) (hRo (b + 1) (by omega) (by omega)) (by omega)) (by omega) | (exfalso; omega)) hL48_0 hL48_1 rfl (by omega)
                                    ·
                                      refine S_aload_n X dX12_marksFrom_265 rfl hL48_0 ?_
                                      refine S_get X fgX12_80_11 0 rfl hf5 dX12_marksFrom_266 ?_
                                      refine S_iload_n X dX12_marksFrom_269 rfl hL48_1 ?_
                                      refine S_iload X dX12_marksFrom_270 rfl ?_
                                      refine S_iast X 3 rfl (by omega) (by omega) (nle rfl) dX12_marksFrom_272 ?_
                                      refine S_w (ws' := [(h0, ob 11 f), (hA, ar 1206 Ab), (hE, ar 6 E), (hff, ar 31 (uZ Fv fr ((Fv (b + 1)) + 1))), (hbf, ar 31 Bv), (hsu, ar 6 Sx)]) rfl ?_
                                      refine S_aload_n X dX12_marksFrom_273 rfl hL48_0 ?_
                                      refine S_get X fgX12_83_11 0 rfl hf6 dX12_marksFrom_274 ?_
                                      refine S_iload_n X dX12_marksFrom_277 rfl hL48_1 ?_
                                      refine S_iload X dX12_marksFrom_278 rfl ?_
                                      refine S_iast X 4 rfl (by omega) (by omega) (nle rfl) dX12_marksFrom_280 ?_
                                      refine S_w (ws' := [(h0, ob 11 f), (hA, ar 1206 Ab), (hE, ar 6 E), (hff, ar 31 (uZ Fv fr ((Fv (b + 1)) + 1))), (hbf, ar 31 (uZ Bv fr 0)), (hsu, ar 6 Sx)]) rfl ?_
                                      refine S_iinc X dX12_marksFrom_281 (nle rfl) hL48_2 ?_
                                      refine S_goto (tgt := 32) X dX12_marksFrom_284 (by decide) ?_
                                      exact ih32 (b + 1) (uZ Fv fr ((Fv (b + 1)) + 1)) (uZ Bv fr 0) Sx _ (by omega) (fun j j0 j1 => (by omega : j = fr ∨ fr < j).elim (fun q9 => by rw [q9, uZ_at]; omega) (fun q9 => by rw [uZ_ne (by omega)]; exact hFv j j0 j1)) (uZ_all hBv (by decide)) (fun x h0 h1 => by have := hS1 x h0 (by omega); omega) (fun x h0 h1 => hX1 x h0 (by omega)) (fun c c0 c1 => (by omega : c < b ∨ c = b).elim (hgd c c0) (fun q9 => by rw [q9]; exact hsp)) (fun j j0 j1 => by rw [uZ_ne (by omega), uZ_ne (by omega)]; exact hRo j j0 j1) (by rw [uZ_at, uZ_at]; first | exact mb_take hRf (cand_mid (by omega) (by omega) (by omega) (by omega) (gdM_S hgd hsp) (hRo (b + 1) (by omega) (by omega)) (by omega)) (by omega) | (exfalso; omega)) hL48_0 hL48_1 rfl (by omega)
                        ·
                          refine S_iconst X dX12_marksFrom_172 ?_
                          refine S_goto (tgt := 186) X dX12_marksFrom_173 (by decide) ?_
                          refine S_istore X dX12_marksFrom_186 (nle rfl) ?_
                          refine S_iload_n X dX12_marksFrom_188 rfl hL48_2 ?_
                          refine S_aload_n X dX12_marksFrom_189 rfl hL48_0 ?_
                          refine S_get X fgX12_56_11 0 rfl hf1 dX12_marksFrom_190 ?_
                          refine S_iconst X dX12_marksFrom_193 ?_
                          refine S_isub X dX12_marksFrom_194 ?_
                          refine S_icmp_ne (tgt := 202) X dX12_marksFrom_195 (by decide) (by omega) (by omega) (fun c_18 => ?_) (fun c_18 => ?_)
                          ·
                            have hb9 := hBv (b + 1)
                            refine S_aload_n X dX12_marksFrom_202 rfl hL48_0 ?_
                            refine S_get X fgX12_83_11 0 rfl hf6 dX12_marksFrom_203 ?_
                            refine S_iload_n X dX12_marksFrom_206 rfl hL48_2 ?_
                            refine S_iconst X dX12_marksFrom_207 ?_
                            refine S_iadd X dX12_marksFrom_208 ?_
                            refine S_iald X 4 rfl (by omega) (by omega) (nle rfl) dX12_marksFrom_209 ?_
                            refine S_iconst X dX12_marksFrom_210 ?_
                            refine S_iload_n X dX12_marksFrom_211 rfl hL48_2 ?_
                            refine S_ishl X dX12_marksFrom_212 ?_
                            refine S_ior X dX12_marksFrom_213 ?_
                            refine S_istore X dX12_marksFrom_214 (nle rfl) ?_
                            refine S_iload X dX12_marksFrom_216 rfl ?_
                            refine S_iconst X dX12_marksFrom_218 ?_
                            refine S_icmp_eq (tgt := 281) X dX12_marksFrom_219 (by decide) (by decide) (by decide) (fun _ => ?_) (fun h9 => absurd h9 (by decide))
                            refine S_iinc X dX12_marksFrom_281 (nle rfl) hL48_2 ?_
                            refine S_goto (tgt := 32) X dX12_marksFrom_284 (by decide) ?_
                            exact ih32 (b + 1) Fv Bv Sx _ (by omega) (hFv) (hBv) (fun x h0 h1 => by have := hS1 x h0 (by omega); omega) (fun x h0 h1 => hX1 x h0 (by omega)) (fun c c0 c1 => (by omega : c < b ∨ c = b).elim (hgd c c0) (fun q9 => by rw [q9]; exact hsp)) (hRo) (by first | exact mb_keep hRf (cand_none (x := 0) (by omega) (by omega) (gdM_S hgd hsp) (hRo (b + 1) (by omega) (by omega)) (by omega)) (by omega) | (exfalso; omega)) hL48_0 hL48_1 rfl (by omega)
                          ·
                            refine S_iconst X dX12_marksFrom_198 ?_
                            refine S_goto (tgt := 214) X dX12_marksFrom_199 (by decide) ?_
                            refine S_istore X dX12_marksFrom_214 (nle rfl) ?_
                            refine S_iload X dX12_marksFrom_216 rfl ?_
                            refine S_iconst X dX12_marksFrom_218 ?_
                            refine S_icmp_eq (tgt := 281) X dX12_marksFrom_219 (by decide) (by decide) (by decide) (fun _ => ?_) (fun h9 => absurd h9 (by decide))
                            refine S_iinc X dX12_marksFrom_281 (nle rfl) hL48_2 ?_
                            refine S_goto (tgt := 32) X dX12_marksFrom_284 (by decide) ?_
                            exact ih32 (b + 1) Fv Bv Sx _ (by omega) (hFv) (hBv) (fun x h0 h1 => by have := hS1 x h0 (by omega); omega) (fun x h0 h1 => hX1 x h0 (by omega)) (fun c c0 c1 => (by omega : c < b ∨ c = b).elim (hgd c c0) (fun q9 => by rw [q9]; exact hsp)) (hRo) (by first | exact mb_keep hRf (cand_none (x := 0) (by omega) (by omega) (gdM_S hgd hsp) (hRo (b + 1) (by omega) (by omega)) (by omega)) (by omega) | (exfalso; omega)) hL48_0 hL48_1 rfl (by omega)
                      ·
                        refine S_iconst X dX12_marksFrom_156 ?_
                        refine S_goto (tgt := 186) X dX12_marksFrom_157 (by decide) ?_
                        refine S_istore X dX12_marksFrom_186 (nle rfl) ?_
                        refine S_iload_n X dX12_marksFrom_188 rfl hL48_2 ?_
                        refine S_aload_n X dX12_marksFrom_189 rfl hL48_0 ?_
                        refine S_get X fgX12_56_11 0 rfl hf1 dX12_marksFrom_190 ?_
                        refine S_iconst X dX12_marksFrom_193 ?_
                        refine S_isub X dX12_marksFrom_194 ?_
                        refine S_icmp_ne (tgt := 202) X dX12_marksFrom_195 (by decide) (by omega) (by omega) (fun c_21 => ?_) (fun c_21 => ?_)
                        ·
                          have hb9 := hBv (b + 1)
                          refine S_aload_n X dX12_marksFrom_202 rfl hL48_0 ?_
                          refine S_get X fgX12_83_11 0 rfl hf6 dX12_marksFrom_203 ?_
                          refine S_iload_n X dX12_marksFrom_206 rfl hL48_2 ?_
                          refine S_iconst X dX12_marksFrom_207 ?_
                          refine S_iadd X dX12_marksFrom_208 ?_
                          refine S_iald X 4 rfl (by omega) (by omega) (nle rfl) dX12_marksFrom_209 ?_
                          refine S_iconst X dX12_marksFrom_210 ?_
                          refine S_iload_n X dX12_marksFrom_211 rfl hL48_2 ?_
                          refine S_ishl X dX12_marksFrom_212 ?_
                          refine S_ior X dX12_marksFrom_213 ?_
                          refine S_istore X dX12_marksFrom_214 (nle rfl) ?_
                          refine S_iload X dX12_marksFrom_216 rfl ?_
                          refine S_iconst X dX12_marksFrom_218 ?_
                          refine S_icmp_eq (tgt := 281) X dX12_marksFrom_219 (by decide) (by decide) (by decide) (fun h9 => absurd h9 (by decide)) (fun _ => ?_)
                          have hf8 := hFv fr (by omega) (by omega)
                          have hb8 := hBv fr
                          refine S_aload_n X dX12_marksFrom_222 rfl hL48_0 ?_
                          refine S_get X fgX12_80_11 0 rfl hf5 dX12_marksFrom_223 ?_
                          refine S_iload_n X dX12_marksFrom_226 rfl hL48_1 ?_
                          refine S_iald X 3 rfl (by omega) (by omega) (nle rfl) dX12_marksFrom_227 ?_
                          refine S_iconst X dX12_marksFrom_228 ?_
                          refine S_icmp_eq (tgt := 265) X dX12_marksFrom_229 (by decide) (by omega) (by decide) (fun c_23 => ?_) (fun c_23 => ?_)
                          ·
                            refine S_aload_n X dX12_marksFrom_265 rfl hL48_0 ?_
                            refine S_get X fgX12_80_11 0 rfl hf5 dX12_marksFrom_266 ?_
                            refine S_iload_n X dX12_marksFrom_269 rfl hL48_1 ?_
                            refine S_iload X dX12_marksFrom_270 rfl ?_
                            refine S_iast X 3 rfl (by omega) (by omega) (nle rfl) dX12_marksFrom_272 ?_
                            refine S_w (ws' := [(h0, ob 11 f), (hA, ar 1206 Ab), (hE, ar 6 E), (hff, ar 31 (uZ Fv fr 0)), (hbf, ar 31 Bv), (hsu, ar 6 Sx)]) rfl ?_
                            refine S_aload_n X dX12_marksFrom_273 rfl hL48_0 ?_
                            refine S_get X fgX12_83_11 0 rfl hf6 dX12_marksFrom_274 ?_
                            refine S_iload_n X dX12_marksFrom_277 rfl hL48_1 ?_
                            refine S_iload X dX12_marksFrom_278 rfl ?_
                            refine S_iast X 4 rfl (by omega) (by omega) (nle rfl) dX12_marksFrom_280 ?_
                            refine S_w (ws' := [(h0, ob 11 f), (hA, ar 1206 Ab), (hE, ar 6 E), (hff, ar 31 (uZ Fv fr 0)), (hbf, ar 31 (uZ Bv fr (zOr (Bv (b + 1)) (zShl 1 b)))), (hsu, ar 6 Sx)]) rfl ?_
                            refine S_iinc X dX12_marksFrom_281 (nle rfl) hL48_2 ?_
                            refine S_goto (tgt := 32) X dX12_marksFrom_284 (by decide) ?_
                            exact ih32 (b + 1) (uZ Fv fr 0) (uZ Bv fr (zOr (Bv (b + 1)) (zShl 1 b))) Sx _ (by omega) (fun j j0 j1 => (by omega : j = fr ∨ fr < j).elim (fun q9 => by rw [q9, uZ_at]; omega) (fun q9 => by rw [uZ_ne (by omega)]; exact hFv j j0 j1)) (uZ_all hBv (zOr_r _ _)) (fun x h0 h1 => by have := hS1 x h0 (by omega); omega) (fun x h0 h1 => hX1 x h0 (by omega)) (fun c c0 c1 => (by omega : c < b ∨ c = b).elim (hgd c c0) (fun q9 => by rw [q9]; exact hsp)) (fun j j0 j1 => by rw [uZ_ne (by omega), uZ_ne (by omega)]; exact hRo j j0 j1) (by rw [uZ_at, uZ_at]; first | exact mb_take hRf (cand_last (by omega) (by omega) (gdM_S hgd hsp)) (by omega) | (exfalso; omega)) hL48_0 hL48_1 rfl (by omega)
                          ·
                            refine S_iload X dX12_marksFrom_232 rfl ?_
                            refine S_aload_n X dX12_marksFrom_234 rfl hL48_0 ?_
                            refine S_get X fgX12_80_11 0 rfl hf5 dX12_marksFrom_235 ?_
                            refine S_iload_n X dX12_marksFrom_238 rfl hL48_1 ?_
                            refine S_iald X 3 rfl (by omega) (by omega) (nle rfl) dX12_marksFrom_239 ?_
                            refine S_icmp_lt (tgt := 265) X dX12_marksFrom_240 (by decide) (by decide) (by omega) (fun c_24 => ?_) (fun c_24 => ?_)
                            ·
                              refine S_aload_n X dX12_marksFrom_265 rfl hL48_0 ?_
                              refine S_get X fgX12_80_11 0 rfl hf5 dX12_marksFrom_266 ?_
                              refine S_iload_n X dX12_marksFrom_269 rfl hL48_1 ?_
                              refine S_iload X dX12_marksFrom_270 rfl ?_
                              refine S_iast X 3 rfl (by omega) (by omega) (nle rfl) dX12_marksFrom_272 ?_
                              refine S_w (ws' := [(h0, ob 11 f), (hA, ar 1206 Ab), (hE, ar 6 E), (hff, ar 31 (uZ Fv fr 0)), (hbf, ar 31 Bv), (hsu, ar 6 Sx)]) rfl ?_
                              refine S_aload_n X dX12_marksFrom_273 rfl hL48_0 ?_
                              refine S_get X fgX12_83_11 0 rfl hf6 dX12_marksFrom_274 ?_
                              refine S_iload_n X dX12_marksFrom_277 rfl hL48_1 ?_
                              refine S_iload X dX12_marksFrom_278 rfl ?_
                              refine S_iast X 4 rfl (by omega) (by omega) (nle rfl) dX12_marksFrom_280 ?_
                              refine S_w (ws' := [(h0, ob 11 f), (hA, ar 1206 Ab), (hE, ar 6 E), (hff, ar 31 (uZ Fv fr 0)), (hbf, ar 31 (uZ Bv fr (zOr (Bv (b + 1)) (zShl 1 b)))), (hsu, ar 6 Sx)]) rfl ?_
                              refine S_iinc X dX12_marksFrom_281 (nle rfl) hL48_2 ?_
                              refine S_goto (tgt := 32) X dX12_marksFrom_284 (by decide) ?_
                              exact ih32 (b + 1) (uZ Fv fr 0) (uZ Bv fr (zOr (Bv (b + 1)) (zShl 1 b))) Sx _ (by omega) (fun j j0 j1 => (by omega : j = fr ∨ fr < j).elim (fun q9 => by rw [q9, uZ_at]; omega) (fun q9 => by rw [uZ_ne (by omega)]; exact hFv j j0 j1)) (uZ_all hBv (zOr_r _ _)) (fun x h0 h1 => by have := hS1 x h0 (by omega); omega) (fun x h0 h1 => hX1 x h0 (by omega)) (fun c c0 c1 => (by omega : c < b ∨ c = b).elim (hgd c c0) (fun q9 => by rw [q9]; exact hsp)) (fun j j0 j1 => by rw [uZ_ne (by omega), uZ_ne (by omega)]; exact hRo j j0 j1) (by rw [uZ_at, uZ_at]; first | exact mb_take hRf (cand_last (by omega) (by omega) (gdM_S hgd hsp)) (by omega) | (exfalso; omega)) hL48_0 hL48_1 rfl (by omega)
                            ·
                              refine S_iload X dX12_marksFrom_243 rfl ?_
                              refine S_aload_n X dX12_marksFrom_245 rfl hL48_0 ?_
                              refine S_get X fgX12_80_11 0 rfl hf5 dX12_marksFrom_246 ?_
                              refine S_iload_n X dX12_marksFrom_249 rfl hL48_1 ?_
                              refine S_iald X 3 rfl (by omega) (by omega) (nle rfl) dX12_marksFrom_250 ?_
                              refine S_icmp_ne (tgt := 281) X dX12_marksFrom_251 (by decide) (by decide) (by omega) (fun c_25 => ?_) (fun c_25 => ?_)
                              ·
                                refine S_iinc X dX12_marksFrom_281 (nle rfl) hL48_2 ?_
                                refine S_goto (tgt := 32) X dX12_marksFrom_284 (by decide) ?_
                                exact ih32 (b + 1) Fv Bv Sx _ (by omega) (hFv) (hBv) (fun x h0 h1 => by have := hS1 x h0 (by omega); omega) (fun x h0 h1 => hX1 x h0 (by omega)) (fun c c0 c1 => (by omega : c < b ∨ c = b).elim (hgd c c0) (fun q9 => by rw [q9]; exact hsp)) (hRo) (by first | exact mb_keep hRf (cand_last (by omega) (by omega) (gdM_S hgd hsp)) (by omega) | (exfalso; omega)) hL48_0 hL48_1 rfl (by omega)
                              ·
                                refine S_iload X dX12_marksFrom_254 rfl ?_
                                refine S_aload_n X dX12_marksFrom_256 rfl hL48_0 ?_
                                refine S_get X fgX12_83_11 0 rfl hf6 dX12_marksFrom_257 ?_
                                refine S_iload_n X dX12_marksFrom_260 rfl hL48_1 ?_
                                refine S_iald X 4 rfl (by omega) (by omega) (nle rfl) dX12_marksFrom_261 ?_
                                have hzr := zOr_r (Bv (b + 1)) (zShl 1 b)
                                refine S_icmp_ge (tgt := 281) X dX12_marksFrom_262 (by decide) (by omega) (by omega) (fun c_26 => ?_) (fun c_26 => ?_)
                                ·
                                  refine S_iinc X dX12_marksFrom_281 (nle rfl) hL48_2 ?_
                                  refine S_goto (tgt := 32) X dX12_marksFrom_284 (by decide) ?_
                                  exact ih32 (b + 1) Fv Bv Sx _ (by omega) (hFv) (hBv) (fun x h0 h1 => by have := hS1 x h0 (by omega); omega) (fun x h0 h1 => hX1 x h0 (by omega)) (fun c c0 c1 => (by omega : c < b ∨ c = b).elim (hgd c c0) (fun q9 => by rw [q9]; exact hsp)) (hRo) (by first | exact mb_keep hRf (cand_last (by omega) (by omega) (gdM_S hgd hsp)) (by omega) | (exfalso; omega)) hL48_0 hL48_1 rfl (by omega)
                                ·
                                  refine S_aload_n X dX12_marksFrom_265 rfl hL48_0 ?_
                                  refine S_get X fgX12_80_11 0 rfl hf5 dX12_marksFrom_266 ?_
                                  refine S_iload_n X dX12_marksFrom_269 rfl hL48_1 ?_
                                  refine S_iload X dX12_marksFrom_270 rfl ?_
                                  refine S_iast X 3 rfl (by omega) (by omega) (nle rfl) dX12_marksFrom_272 ?_
                                  refine S_w (ws' := [(h0, ob 11 f), (hA, ar 1206 Ab), (hE, ar 6 E), (hff, ar 31 (uZ Fv fr 0)), (hbf, ar 31 Bv), (hsu, ar 6 Sx)]) rfl ?_
                                  refine S_aload_n X dX12_marksFrom_273 rfl hL48_0 ?_
                                  refine S_get X fgX12_83_11 0 rfl hf6 dX12_marksFrom_274 ?_
                                  refine S_iload_n X dX12_marksFrom_277 rfl hL48_1 ?_
                                  refine S_iload X dX12_marksFrom_278 rfl ?_
                                  refine S_iast X 4 rfl (by omega) (by omega) (nle rfl) dX12_marksFrom_280 ?_
                                  refine S_w (ws' := [(h0, ob 11 f), (hA, ar 1206 Ab), (hE, ar 6 E), (hff, ar 31 (uZ Fv fr 0)), (hbf, ar 31 (uZ Bv fr (zOr (Bv (b + 1)) (zShl 1 b)))), (hsu, ar 6 Sx)]) rfl ?_
                                  refine S_iinc X dX12_marksFrom_281 (nle rfl) hL48_2 ?_
                                  refine S_goto (tgt := 32) X dX12_marksFrom_284 (by decide) ?_
                                  exact ih32 (b + 1) (uZ Fv fr 0) (uZ Bv fr (zOr (Bv (b + 1)) (zShl 1 b))) Sx _ (by omega) (fun j j0 j1 => (by omega : j = fr ∨ fr < j).elim (fun q9 => by rw [q9, uZ_at]; omega) (fun q9 => by rw [uZ_ne (by omega)]; exact hFv j j0 j1)) (uZ_all hBv (zOr_r _ _)) (fun x h0 h1 => by have := hS1 x h0 (by omega); omega) (fun x h0 h1 => hX1 x h0 (by omega)) (fun c c0 c1 => (by omega : c < b ∨ c = b).elim (hgd c c0) (fun q9 => by rw [q9]; exact hsp)) (fun j j0 j1 => by rw [uZ_ne (by omega), uZ_ne (by omega)]; exact hRo j j0 j1) (by rw [uZ_at, uZ_at]; first | exact mb_take hRf (cand_last (by omega) (by omega) (gdM_S hgd hsp)) (by omega) | (exfalso; omega)) hL48_0 hL48_1 rfl (by omega)
                        ·
                          refine S_iconst X dX12_marksFrom_198 ?_
                          refine S_goto (tgt := 214) X dX12_marksFrom_199 (by decide) ?_
                          refine S_istore X dX12_marksFrom_214 (nle rfl) ?_
                          refine S_iload X dX12_marksFrom_216 rfl ?_
                          refine S_iconst X dX12_marksFrom_218 ?_
                          refine S_icmp_eq (tgt := 281) X dX12_marksFrom_219 (by decide) (by decide) (by decide) (fun h9 => absurd h9 (by decide)) (fun _ => ?_)
                          have hf8 := hFv fr (by omega) (by omega)
                          have hb8 := hBv fr
                          refine S_aload_n X dX12_marksFrom_222 rfl hL48_0 ?_
                          refine S_get X fgX12_80_11 0 rfl hf5 dX12_marksFrom_223 ?_
                          refine S_iload_n X dX12_marksFrom_226 rfl hL48_1 ?_
                          refine S_iald X 3 rfl (by omega) (by omega) (nle rfl) dX12_marksFrom_227 ?_
                          refine S_iconst X dX12_marksFrom_228 ?_
                          refine S_icmp_eq (tgt := 265) X dX12_marksFrom_229 (by decide) (by omega) (by decide) (fun c_28 => ?_) (fun c_28 => ?_)
                          ·
                            refine S_aload_n X dX12_marksFrom_265 rfl hL48_0 ?_
                            refine S_get X fgX12_80_11 0 rfl hf5 dX12_marksFrom_266 ?_
                            refine S_iload_n X dX12_marksFrom_269 rfl hL48_1 ?_
                            refine S_iload X dX12_marksFrom_270 rfl ?_
                            refine S_iast X 3 rfl (by omega) (by omega) (nle rfl) dX12_marksFrom_272 ?_
                            refine S_w (ws' := [(h0, ob 11 f), (hA, ar 1206 Ab), (hE, ar 6 E), (hff, ar 31 (uZ Fv fr 0)), (hbf, ar 31 Bv), (hsu, ar 6 Sx)]) rfl ?_
                            refine S_aload_n X dX12_marksFrom_273 rfl hL48_0 ?_
                            refine S_get X fgX12_83_11 0 rfl hf6 dX12_marksFrom_274 ?_
                            refine S_iload_n X dX12_marksFrom_277 rfl hL48_1 ?_
                            refine S_iload X dX12_marksFrom_278 rfl ?_
                            refine S_iast X 4 rfl (by omega) (by omega) (nle rfl) dX12_marksFrom_280 ?_
                            refine S_w (ws' := [(h0, ob 11 f), (hA, ar 1206 Ab), (hE, ar 6 E), (hff, ar 31 (uZ Fv fr 0)), (hbf, ar 31 (uZ Bv fr 0)), (hsu, ar 6 Sx)]) rfl ?_
                            refine S_iinc X dX12_marksFrom_281 (nle rfl) hL48_2 ?_
                            refine S_goto (tgt := 32) X dX12_marksFrom_284 (by decide) ?_
                            exact ih32 (b + 1) (uZ Fv fr 0) (uZ Bv fr 0) Sx _ (by omega) (fun j j0 j1 => (by omega : j = fr ∨ fr < j).elim (fun q9 => by rw [q9, uZ_at]; omega) (fun q9 => by rw [uZ_ne (by omega)]; exact hFv j j0 j1)) (uZ_all hBv (by decide)) (fun x h0 h1 => by have := hS1 x h0 (by omega); omega) (fun x h0 h1 => hX1 x h0 (by omega)) (fun c c0 c1 => (by omega : c < b ∨ c = b).elim (hgd c c0) (fun q9 => by rw [q9]; exact hsp)) (fun j j0 j1 => by rw [uZ_ne (by omega), uZ_ne (by omega)]; exact hRo j j0 j1) (by rw [uZ_at, uZ_at]; first | exact mb_take hRf (cand_last (by omega) (by omega) (gdM_S hgd hsp)) (by omega) | (exfalso; omega)) hL48_0 hL48_1 rfl (by omega)
                          ·
                            refine S_iload X dX12_marksFrom_232 rfl ?_
                            refine S_aload_n X dX12_marksFrom_234 rfl hL48_0 ?_
                            refine S_get X fgX12_80_11 0 rfl hf5 dX12_marksFrom_235 ?_
                            refine S_iload_n X dX12_marksFrom_238 rfl hL48_1 ?_
                            refine S_iald X 3 rfl (by omega) (by omega) (nle rfl) dX12_marksFrom_239 ?_
                            refine S_icmp_lt (tgt := 265) X dX12_marksFrom_240 (by decide) (by decide) (by omega) (fun c_29 => ?_) (fun c_29 => ?_)
                            ·
                              refine S_aload_n X dX12_marksFrom_265 rfl hL48_0 ?_
                              refine S_get X fgX12_80_11 0 rfl hf5 dX12_marksFrom_266 ?_
                              refine S_iload_n X dX12_marksFrom_269 rfl hL48_1 ?_
                              refine S_iload X dX12_marksFrom_270 rfl ?_
                              refine S_iast X 3 rfl (by omega) (by omega) (nle rfl) dX12_marksFrom_272 ?_
                              refine S_w (ws' := [(h0, ob 11 f), (hA, ar 1206 Ab), (hE, ar 6 E), (hff, ar 31 (uZ Fv fr 0)), (hbf, ar 31 Bv), (hsu, ar 6 Sx)]) rfl ?_
                              refine S_aload_n X dX12_marksFrom_273 rfl hL48_0 ?_
                              refine S_get X fgX12_83_11 0 rfl hf6 dX12_marksFrom_274 ?_
                              refine S_iload_n X dX12_marksFrom_277 rfl hL48_1 ?_
                              refine S_iload X dX12_marksFrom_278 rfl ?_
                              refine S_iast X 4 rfl (by omega) (by omega) (nle rfl) dX12_marksFrom_280 ?_
                              refine S_w (ws' := [(h0, ob 11 f), (hA, ar 1206 Ab), (hE, ar 6 E), (hff, ar 31 (uZ Fv fr 0)), (hbf, ar 31 (uZ Bv fr 0)), (hsu, ar 6 Sx)]) rfl ?_
                              refine S_iinc X dX12_marksFrom_281 (nle rfl) hL48_2 ?_
                              refine S_goto (tgt := 32) X dX12_marksFrom_284 (by decide) ?_
                              exact ih32 (b + 1) (uZ Fv fr 0) (uZ Bv fr 0) Sx _ (by omega) (fun j j0 j1 => (by omega : j = fr ∨ fr < j).elim (fun q9 => by rw [q9, uZ_at]; omega) (fun q9 => by rw [uZ_ne (by omega)]; exact hFv j j0 j1)) (uZ_all hBv (by decide)) (fun x h0 h1 => by have := hS1 x h0 (by omega); omega) (fun x h0 h1 => hX1 x h0 (by omega)) (fun c c0 c1 => (by omega : c < b ∨ c = b).elim (hgd c c0) (fun q9 => by rw [q9]; exact hsp)) (fun j j0 j1 => by rw [uZ_ne (by omega), uZ_ne (by omega)]; exact hRo j j0 j1) (by rw [uZ_at, uZ_at]; first | exact mb_take hRf (cand_last (by omega) (by omega) (gdM_S hgd hsp)) (by omega) | (exfalso; omega)) hL48_0 hL48_1 rfl (by omega)
                            ·
                              refine S_iload X dX12_marksFrom_243 rfl ?_
                              refine S_aload_n X dX12_marksFrom_245 rfl hL48_0 ?_
                              refine S_get X fgX12_80_11 0 rfl hf5 dX12_marksFrom_246 ?_
                              refine S_iload_n X dX12_marksFrom_249 rfl hL48_1 ?_
                              refine S_iald X 3 rfl (by omega) (by omega) (nle rfl) dX12_marksFrom_250 ?_
                              refine S_icmp_ne (tgt := 281) X dX12_marksFrom_251 (by decide) (by decide) (by omega) (fun c_30 => ?_) (fun c_30 => ?_)
                              ·
                                refine S_iinc X dX12_marksFrom_281 (nle rfl) hL48_2 ?_
                                refine S_goto (tgt := 32) X dX12_marksFrom_284 (by decide) ?_
                                exact ih32 (b + 1) Fv Bv Sx _ (by omega) (hFv) (hBv) (fun x h0 h1 => by have := hS1 x h0 (by omega); omega) (fun x h0 h1 => hX1 x h0 (by omega)) (fun c c0 c1 => (by omega : c < b ∨ c = b).elim (hgd c c0) (fun q9 => by rw [q9]; exact hsp)) (hRo) (by first | exact mb_keep hRf (cand_last (by omega) (by omega) (gdM_S hgd hsp)) (by omega) | (exfalso; omega)) hL48_0 hL48_1 rfl (by omega)
                              ·
                                refine S_iload X dX12_marksFrom_254 rfl ?_
                                refine S_aload_n X dX12_marksFrom_256 rfl hL48_0 ?_
                                refine S_get X fgX12_83_11 0 rfl hf6 dX12_marksFrom_257 ?_
                                refine S_iload_n X dX12_marksFrom_260 rfl hL48_1 ?_
                                refine S_iald X 4 rfl (by omega) (by omega) (nle rfl) dX12_marksFrom_261 ?_
                                have hzr := zOr_r (Bv (b + 1)) (zShl 1 b)
                                refine S_icmp_ge (tgt := 281) X dX12_marksFrom_262 (by decide) (by decide) (by omega) (fun c_31 => ?_) (fun c_31 => ?_)
                                ·
                                  refine S_iinc X dX12_marksFrom_281 (nle rfl) hL48_2 ?_
                                  refine S_goto (tgt := 32) X dX12_marksFrom_284 (by decide) ?_
                                  exact ih32 (b + 1) Fv Bv Sx _ (by omega) (hFv) (hBv) (fun x h0 h1 => by have := hS1 x h0 (by omega); omega) (fun x h0 h1 => hX1 x h0 (by omega)) (fun c c0 c1 => (by omega : c < b ∨ c = b).elim (hgd c c0) (fun q9 => by rw [q9]; exact hsp)) (hRo) (by first | exact mb_keep hRf (cand_last (by omega) (by omega) (gdM_S hgd hsp)) (by omega) | (exfalso; omega)) hL48_0 hL48_1 rfl (by omega)
                                ·
                                  refine S_aload_n X dX12_marksFrom_265 rfl hL48_0 ?_
                                  refine S_get X fgX12_80_11 0 rfl hf5 dX12_marksFrom_266 ?_
                                  refine S_iload_n X dX12_marksFrom_269 rfl hL48_1 ?_
                                  refine S_iload X dX12_marksFrom_270 rfl ?_
                                  refine S_iast X 3 rfl (by omega) (by omega) (nle rfl) dX12_marksFrom_272 ?_
                                  refine S_w (ws' := [(h0, ob 11 f), (hA, ar 1206 Ab), (hE, ar 6 E), (hff, ar 31 (uZ Fv fr 0)), (hbf, ar 31 Bv), (hsu, ar 6 Sx)]) rfl ?_
                                  refine S_aload_n X dX12_marksFrom_273 rfl hL48_0 ?_
                                  refine S_get X fgX12_83_11 0 rfl hf6 dX12_marksFrom_274 ?_
                                  refine S_iload_n X dX12_marksFrom_277 rfl hL48_1 ?_
                                  refine S_iload X dX12_marksFrom_278 rfl ?_
                                  refine S_iast X 4 rfl (by omega) (by omega) (nle rfl) dX12_marksFrom_280 ?_
                                  refine S_w (ws' := [(h0, ob 11 f), (hA, ar 1206 Ab), (hE, ar 6 E), (hff, ar 31 (uZ Fv fr 0)), (hbf, ar 31 (uZ Bv fr 0)), (hsu, ar 6 Sx)]) rfl ?_
                                  refine S_iinc X dX12_marksFrom_281 (nle rfl) hL48_2 ?_
                                  refine S_goto (tgt := 32) X dX12_marksFrom_284 (by decide) ?_
                                  exact ih32 (b + 1) (uZ Fv fr 0) (uZ Bv fr 0) Sx _ (by omega) (fun j j0 j1 => (by omega : j = fr ∨ fr < j).elim (fun q9 => by rw [q9, uZ_at]; omega) (fun q9 => by rw [uZ_ne (by omega)]; exact hFv j j0 j1)) (uZ_all hBv (by decide)) (fun x h0 h1 => by have := hS1 x h0 (by omega); omega) (fun x h0 h1 => hX1 x h0 (by omega)) (fun c c0 c1 => (by omega : c < b ∨ c = b).elim (hgd c c0) (fun q9 => by rw [q9]; exact hsp)) (fun j j0 j1 => by rw [uZ_ne (by omega), uZ_ne (by omega)]; exact hRo j j0 j1) (by rw [uZ_at, uZ_at]; first | exact mb_take hRf (cand_last (by omega) (by omega) (gdM_S hgd hsp)) (by omega) | (exfalso; omega)) hL48_0 hL48_1 rfl (by omega)
                    ·
                      exact S_vret X (nle rfl) (nle rfl) dX12_marksFrom_145 (hPo _ (⟨_, _, _, rfl, hFv, hBv, fun j j0 j1 => (by omega : j = fr ∨ fr < j).elim (fun q9 => by rw [q9]; exact RB_e (SB_stop gdM_pre (by omega) (by omega) (fun q => by have q3 := q b (by omega) (Int.le_refl b); unfold spM at q3; have q1 := hm1; have q2 := hm2 (by omega); rw [show i = pl by omega] at q1 q2; omega)) hRf) (hRo j · j1)⟩))
                  ·
                    have hsi := hS2 i (by omega) (by omega)
                    have hA1 := hr.at (z := 6 * b + i) (x := b) (y := i) rfl (by omega) (by omega) (by omega) (by omega)
                    have hA2 := hok.beat b i (by omega) (by omega) (by omega)
                    have hE1 := (hok.2.2.2.2.2.2 i (by omega) (by omega)).2.2.2
                    have hx2 := hX2 i (by omega) (by omega)
                    have hDb : sgM (fun b p => bF ec (c5 Q 3) (c5 Q 4) B b p + E p) fr (b + 1) i = sgM (fun b p => bF ec (c5 Q 3) (c5 Q 4) B b p + E p) fr b i + (bF ec (c5 Q 3) (c5 Q 4) B b i + E i) := sgM_S (by omega)
                    refine S_aload_n X dX12_marksFrom_57 rfl hL48_0 ?_
                    refine S_get X fgX12_86_11 0 rfl hf7 dX12_marksFrom_58 ?_
                    refine S_iload X dX12_marksFrom_61 hL48_5 ?_
                    refine S_dup2 X dX12_marksFrom_63 ?_
                    refine S_iald X 5 rfl (by omega) (by omega) (nle rfl) dX12_marksFrom_64 ?_
                    refine S_aload_n X dX12_marksFrom_65 rfl hL48_0 ?_
                    refine S_get X fgX12_65_11 0 rfl hf3 dX12_marksFrom_66 ?_
                    refine S_bipush X dX12_marksFrom_69 rfl ?_
                    refine S_iload_n X dX12_marksFrom_71 rfl hL48_2 ?_
                    refine S_imul X dX12_marksFrom_72 ?_
                    refine S_iload X dX12_marksFrom_73 hL48_5 ?_
                    refine S_iadd X dX12_marksFrom_75 ?_
                    refine S_iald X 1 rfl (by omega) (by omega) (nle rfl) dX12_marksFrom_76 ?_
                    refine S_aload_n X dX12_marksFrom_77 rfl hL48_0 ?_
                    refine S_get X fgX12_49_11 0 rfl hf2 dX12_marksFrom_78 ?_
                    refine S_iload X dX12_marksFrom_81 hL48_5 ?_
                    refine S_iald X 2 rfl (by omega) (by omega) (nle rfl) dX12_marksFrom_83 ?_
                    refine S_iadd X dX12_marksFrom_84 ?_
                    refine S_iadd X dX12_marksFrom_85 ?_
                    refine S_iast X 5 rfl (by omega) (by omega) (nle rfl) dX12_marksFrom_86 ?_
                    refine S_w (ws' := [(h0, ob 11 f), (hA, ar 1206 Ab), (hE, ar 6 E), (hff, ar 31 Fv), (hbf, ar 31 Bv), (hsu, ar 6 (uZ Sx i ((Sx i) + ((Ab ((6 * b) + i)) + (E i)))))]) rfl ?_
                    have hu9 : (uZ Sx i ((Sx i) + ((Ab ((6 * b) + i)) + (E i)))) i = Sx i + (Ab (6 * b + i) + E i) := uZ_at
                    have hv9 : (uZ Sx i ((Sx i) + ((Ab ((6 * b) + i)) + (E i)))) i = sgM (fun b p => bF ec (c5 Q 3) (c5 Q 4) B b p + E p) fr (b + 1) i := by rw [hu9, hx2, hDb, hA1]
                    refine S_iload X dX12_marksFrom_87 hL48_5 ?_
                    refine S_if_ne (tgt := 102) X dX12_marksFrom_89 (by decide) (by omega) (fun c_32 => ?_) (fun c_32 => ?_)
                    ·
                      refine S_iload_n X dX12_marksFrom_102 rfl hL48_3 ?_
                      refine S_aload_n X dX12_marksFrom_103 rfl hL48_0 ?_
                      refine S_get X fgX12_86_11 0 rfl hf7 dX12_marksFrom_104 ?_
                      refine S_iload X dX12_marksFrom_107 hL48_5 ?_
                      refine S_iald X 5 rfl (by omega) (by omega) (nle rfl) dX12_marksFrom_109 ?_
                      refine S_mmin X lkX12_293 rfl rfl (by omega) (by omega) (nle rfl) (nle rfl) (nle rfl) (nle rfl) dX12_marksFrom_110 ?_
                      refine S_istore_n X dX12_marksFrom_113 rfl (nle rfl) ?_
                      refine S_iload X dX12_marksFrom_114 hL48_4 ?_
                      refine S_aload_n X dX12_marksFrom_116 rfl hL48_0 ?_
                      refine S_get X fgX12_86_11 0 rfl hf7 dX12_marksFrom_117 ?_
                      refine S_iload X dX12_marksFrom_120 hL48_5 ?_
                      refine S_iald X 5 rfl (by omega) (by omega) (nle rfl) dX12_marksFrom_122 ?_
                      refine S_mmax X lkX12_295 rfl rfl (by omega) (by omega) (nle rfl) (nle rfl) (nle rfl) (nle rfl) dX12_marksFrom_123 ?_
                      refine S_istore X dX12_marksFrom_126 (nle rfl) ?_
                      refine S_iinc X dX12_marksFrom_128 (nle rfl) hL48_5 ?_
                      refine S_goto (tgt := 48) X dX12_marksFrom_131 (by decide) ?_
                      exact ih48 (i + 1) (min lo ((uZ Sx i ((Sx i) + ((Ab ((6 * b) + i)) + (E i)))) i)) (max hi9 ((uZ Sx i ((Sx i) + ((Ab ((6 * b) + i)) + (E i)))) i)) (uZ Sx i ((Sx i) + ((Ab ((6 * b) + i)) + (E i)))) _ (by omega) (by omega) (by omega) (fun x h0 h1 => (by omega : x < i ∨ x = i).elim (fun q9 => by rw [uZ_ne (by omega)]; exact hS1 x h0 q9) (fun q9 => by rw [q9, uZ_at]; omega)) (fun x h0 h1 => by rw [uZ_ne (by omega)]; exact hS2 x (by omega) h1) (fun x h0 h1 => (by omega : x < i ∨ x = i).elim (fun q9 => by rw [uZ_ne (by omega)]; exact hX1 x h0 q9) (fun q9 => by rw [q9]; exact hv9)) (fun x h0 h1 => by rw [uZ_ne (by omega)]; exact hX2 x (by omega) h1) (by rw [mxI_S (by omega), ← hm1, ← hv9]) (fun _ => by rw [mnI_S (by omega), ← hv9]; first | (rw [← hm2 (by omega)]; done) | (rw [show mnI (sgM (fun b p => bF ec (c5 Q 3) (c5 Q 4) B b p + E p) fr (b + 1)) i = 1000000000 by rw [show i = 0 by omega]; exact mnI_0]; omega)) hL48_0 hL48_1 hL48_2 rfl rfl rfl (by omega)
                    ·
                      refine S_aload_n X dX12_marksFrom_92 rfl hL48_0 ?_
                      refine S_get X fgX12_86_11 0 rfl hf7 dX12_marksFrom_93 ?_
                      refine S_iload X dX12_marksFrom_96 hL48_5 ?_
                      refine S_iald X 5 rfl (by omega) (by omega) (nle rfl) dX12_marksFrom_98 ?_
                      refine S_goto (tgt := 113) X dX12_marksFrom_99 (by decide) ?_
                      refine S_istore_n X dX12_marksFrom_113 rfl (nle rfl) ?_
                      refine S_iload X dX12_marksFrom_114 hL48_4 ?_
                      refine S_aload_n X dX12_marksFrom_116 rfl hL48_0 ?_
                      refine S_get X fgX12_86_11 0 rfl hf7 dX12_marksFrom_117 ?_
                      refine S_iload X dX12_marksFrom_120 hL48_5 ?_
                      refine S_iald X 5 rfl (by omega) (by omega) (nle rfl) dX12_marksFrom_122 ?_
                      refine S_mmax X lkX12_295 rfl rfl (by omega) (by omega) (nle rfl) (nle rfl) (nle rfl) (nle rfl) dX12_marksFrom_123 ?_
                      refine S_istore X dX12_marksFrom_126 (nle rfl) ?_
                      refine S_iinc X dX12_marksFrom_128 (nle rfl) hL48_5 ?_
                      refine S_goto (tgt := 48) X dX12_marksFrom_131 (by decide) ?_
                      exact ih48 (i + 1) ((uZ Sx i ((Sx i) + ((Ab ((6 * b) + i)) + (E i)))) i) (max hi9 ((uZ Sx i ((Sx i) + ((Ab ((6 * b) + i)) + (E i)))) i)) (uZ Sx i ((Sx i) + ((Ab ((6 * b) + i)) + (E i)))) _ (by omega) (by omega) (by omega) (fun x h0 h1 => (by omega : x < i ∨ x = i).elim (fun q9 => by rw [uZ_ne (by omega)]; exact hS1 x h0 q9) (fun q9 => by rw [q9, uZ_at]; omega)) (fun x h0 h1 => by rw [uZ_ne (by omega)]; exact hS2 x (by omega) h1) (fun x h0 h1 => (by omega : x < i ∨ x = i).elim (fun q9 => by rw [uZ_ne (by omega)]; exact hX1 x h0 q9) (fun q9 => by rw [q9]; exact hv9)) (fun x h0 h1 => by rw [uZ_ne (by omega)]; exact hX2 x (by omega) h1) (by rw [mxI_S (by omega), ← hm1, ← hv9]) (fun _ => by rw [mnI_S (by omega), ← hv9]; first | (rw [← hm2 (by omega)]; done) | (rw [show mnI (sgM (fun b p => bF ec (c5 Q 3) (c5 Q 4) B b p + E p) fr (b + 1)) i = 1000000000 by rw [show i = 0 by omega]; exact mnI_0]; omega)) hL48_0 hL48_1 hL48_2 rfl rfl rfl (by omega)
              exact lp48_6 (Int.toNat (pl + 1 - 0) + 1) 0 0 0 Sw _ (by omega) (by omega) (by omega) (fun x h0 h1 => by omega) (fun x h0 h1 => hSw x h0 h1) (fun x h0 h1 => by omega) (fun x h0 h1 => hSv x h0 h1) (rfl) (fun h9 => by omega) hL32_0 hL32_1 hL32_2 rfl rfl rfl (by omega)
        exact lp32_3 (Int.toNat (n + 1 - fr) + 1) fr (uZ Ff fr (-1)) Bf Sv _ (by omega) (fun j j0 j1 => (by omega : j = fr ∨ fr < j).elim (fun q9 => by rw [q9, uZ_at]; omega) (fun q9 => by rw [uZ_ne (by omega)]; exact hFr j q9 j1)) (hBr) (fun x h0 h1 => by rw [hz x h0 (by omega)]; omega) (fun x h0 h1 => by rw [hz x h0 (by omega), sgM_0]) (fun c c0 c1 => by omega) (fun j j0 j1 => by rw [uZ_ne (by omega)]; exact hRr j j0 j1) (Or.inl ⟨uZ_at, SB_0 (by omega)⟩) hL9_0 hL9_1 rfl (by omega)
      ·
        refine S_aload_n X dX12_marksFrom_17 rfl hL9_0 ?_
        refine S_get X fgX12_86_11 0 rfl hf7 dX12_marksFrom_18 ?_
        refine S_iload_n X dX12_marksFrom_21 rfl hL9_2 ?_
        refine S_iconst X dX12_marksFrom_22 ?_
        refine S_iast X 5 rfl (by omega) (by omega) (nle rfl) dX12_marksFrom_23 ?_
        refine S_w (ws' := [(h0, ob 11 f), (hA, ar 1206 Ab), (hE, ar 6 E), (hff, ar 31 (uZ Ff fr (-1))), (hbf, ar 31 Bf), (hsu, ar 6 (uZ Sv i 0))]) rfl ?_
        refine S_iinc X dX12_marksFrom_24 (nle rfl) hL9_2 ?_
        refine S_goto (tgt := 9) X dX12_marksFrom_27 (by decide) ?_
        exact ih9 (i + 1) (uZ Sv i 0) _ (by omega) (fun x h0 h1 => (by omega : x < i ∨ x = i).elim (fun q9 => by rw [uZ_ne (by omega)]; exact hz x h0 q9) (fun q9 => by rw [q9]; exact uZ_at)) hL9_0 hL9_1 rfl (by omega)
  exact lp9_0 (Int.toNat (pl + 1 - 0) + 1) 0 Su _ (by omega) (fun x h0 h1 => by omega) rfl rfl rfl (by omega)
set_option maxHeartbeats 4000000 in
set_option maxRecDepth 100000 in
theorem kX12_marks (l : Launch) (h0 : Nat) (f : Nat → AV) (pl : Int) (n : Int) (ec : Int) (mk : Int) (hQ : Nat) (hB : Nat) (hE : Nat) (hA : Nat) (hM : Nat) (hW : Nat) (Q : Int → Int) (B : Int → Int) (E : Int → Int) (Ab : Int → Int) (lim : Int) (hff : Nat) (hbf : Nat) (hsu : Nat) (Ff : Int → Int) (Bf : Int → Int) (Su : Int → Int) (v : Int) (hf0 : f 21 = iv pl) (hf1 : f 28 = iv n) (hf2 : f 29 = iv ec) (hf3 : f 26 = iv mk) (hf4 : f 20 = rv hQ) (hf5 : f 23 = rv hB) (hf6 : f 24 = rv hE) (hf7 : f 33 = rv hA) (hf8 : f 34 = rv hM) (hf9 : f 35 = rv hW) (hf10 : f 30 = iv lim) (hf11 : f 40 = rv hff) (hf12 : f 41 = rv hbf) (hf13 : f 42 = rv hsu) (hz : okZ pl n ec (c5 Q 3) (c5 Q 4) B E) (hlim : 0 ≤ lim ∧ lim ≤ 999) (hx_v : inR v) : AMi l yX12_marks cX12_marks 3 .int 3 0 0 [rv h0, iv v] [(h0, ob 11 f), (hQ, ar 30 Q), (hB, ar 6 B), (hE, ar 6 E), (hA, ar 1206 Ab), (hff, ar 31 Ff), (hbf, ar 31 Bf), (hsu, ar 6 Su)] (fun z u => ∃ z9 : Int, ∃ A2 : Int → Int, ∃ F2 : Int → Int, ∃ B2 : Int → Int, ∃ S2 : Int → Int, z = z9 ∧ u = [(h0, ob 11 f), (hQ, ar 30 Q), (hB, ar 6 B), (hE, ar 6 E), (hA, ar 1206 A2), (hff, ar 31 F2), (hbf, ar 31 B2), (hsu, ar 6 S2)] ∧ ((¬ (1 ≤ pl ∧ (v = 0 ∨ v = 1)) ∧ z9 = -1) ∨ (1 ≤ pl ∧ (v = 0 ∨ v = 1) ∧ ∃ c m, RB (fun ms => Fu (gdM pl lim (fun b p => bF ec (c5 Q 3) (c5 Q 4) B b p + E p)) n ms 0) c m ∧ ((c = -1 ∧ z9 = -1) ∨ (c ≠ -1 ∧ z9 = if v = 0 then c else m))))) := by
  refine AMi.of2 rfl (nle rfl) ?_
  intro D G A p e s m args below meth c Po hPo X
  have hz6 := hz.2.1
  have hz0 := hz.1
  refine S_aload_n X dX12_marks_0 rfl rfl ?_
  refine S_get X fgX12_253_11 0 rfl hf0 dX12_marks_1 ?_
  refine S_if_eq (tgt := 16) X dX12_marks_4 (by decide) (by omega) (fun c_1 => ?_) (fun c_1 => ?_)
  ·
    refine S_iconst X dX12_marks_16 ?_
    exact S_iret X (nle rfl) (nle rfl) dX12_marks_17 (hPo _ _ (⟨_, _, _, _, _, rfl, rfl, Or.inl ⟨by omega, rfl⟩⟩))
  ·
    refine S_iload_n X dX12_marks_7 rfl rfl ?_
    refine S_iconst X dX12_marks_8 ?_
    refine S_iconst X dX12_marks_9 ?_
    refine S_calli X (kX12_in l v 0 1 (by omega) (by omega) (by omega)) (is := []) rfl (run_S X lkX12_216 (is := []) (avs := [iv v, iv 0, iv 1]) (rest := []) rfl rfl (nle rfl) ⟨nle rfl, nle rfl⟩ ⟨nle rfl, nle rfl⟩ dX12_marks_10 (by decide) rfl) (fun z_4 u_2 hp_3 => ?_)
    rcases hp_3 with ⟨hz_5, hu_6, hq_7⟩ | ⟨hz_8, hu_9, hq_10⟩
    ·
      subst hz_5
      subst hu_6
      refine ⟨rfl, ?_⟩
      refine S_w (ws' := [(h0, ob 11 f), (hQ, ar 30 Q), (hB, ar 6 B), (hE, ar 6 E), (hA, ar 1206 Ab), (hff, ar 31 Ff), (hbf, ar 31 Bf), (hsu, ar 6 Su)]) rfl ?_
      refine S_if_ne (tgt := 18) X dX12_marks_13 (by decide) (by decide) (fun h9 => absurd h9 (by decide)) (fun _ => ?_)
      refine S_iconst X dX12_marks_16 ?_
      exact S_iret X (nle rfl) (nle rfl) dX12_marks_17 (hPo _ _ (⟨_, _, _, _, _, rfl, rfl, Or.inl ⟨by omega, rfl⟩⟩))
    ·
      subst hz_8
      subst hu_9
      refine ⟨rfl, ?_⟩
      refine S_w (ws' := [(h0, ob 11 f), (hQ, ar 30 Q), (hB, ar 6 B), (hE, ar 6 E), (hA, ar 1206 Ab), (hff, ar 31 Ff), (hbf, ar 31 Bf), (hsu, ar 6 Su)]) rfl ?_
      refine S_if_ne (tgt := 18) X dX12_marks_13 (by decide) (by decide) (fun _ => ?_) (fun h9 => absurd h9 (by decide))
      have hok := hz.s (by omega)
      have hpl := hok.2.1
      have hpl1 := hok.1
      have hn1 := hok.2.2.1
      have hn2 := hok.2.2.2.1
      have hec := hok.2.2.2.2
      refine S_aload_n X dX12_marks_18 rfl rfl ?_
      refine S_aload_n X dX12_marks_19 rfl rfl ?_
      refine S_get X fgX12_56_11 0 rfl hf1 dX12_marks_20 ?_
      refine S_callv X (kX12_layBeats l h0 f pl n ec hQ hB hA Q B E Ab n hf0 hf2 hf4 hf5 hf7 (by omega) (by omega)) (is := [0, 1, 2, 4]) rfl (run_V X lkX12_306 0 rfl rfl (is := [0, 1, 2, 4]) (avs := [iv n]) (rest := []) rfl rfl (nle rfl) ⟨nle rfl, nle rfl⟩ ⟨nle rfl, nle rfl⟩ dX12_marks_23 (by decide) rfl) (fun u_13 hp_14 => ?_)
      obtain ⟨A2_16, hu_18, hreg_19⟩ := hp_14
      subst hu_18
      refine ⟨rfl, ?_⟩
      refine S_w (ws' := [(h0, ob 11 f), (hQ, ar 30 Q), (hB, ar 6 B), (hE, ar 6 E), (hA, ar 1206 A2_16), (hff, ar 31 Ff), (hbf, ar 31 Bf), (hsu, ar 6 Su)]) rfl ?_
      have hAL := hreg_19
      refine S_nrm (q := 6) rfl (fun B9 hB9 _ => ?_)
      refine S_w (ws' := [(h0, ob 11 f), (hQ, ar 30 Q), (hB, ar 6 B), (hE, ar 6 E), (hA, ar 1206 A2_16), (hff, ar 31 Ff), (hbf, ar 31 B9), (hsu, ar 6 Su)]) rfl ?_
      refine S_aload_n X dX12_marks_26 rfl rfl ?_
      refine S_get X fgX12_56_11 0 rfl hf1 dX12_marks_27 ?_
      refine S_iconst X dX12_marks_30 ?_
      refine S_isub X dX12_marks_31 ?_
      refine S_istore_n X dX12_marks_32 rfl (nle rfl) ?_
      have lp33_2 : ∀ (N : Nat) (fr : Int) (Fv : Int → Int) (Bv : Int → Int) (Sv : Int → Int) (L : Nat → Option AV), -1 ≤ fr ∧ fr < n → (∀ j, fr < j → j < n → -1 ≤ Fv j ∧ Fv j ≤ n - 1 - j) → (∀ j, inR (Bv j)) → (∀ j, fr < j → j < n → RB (fun ms => Fu (gdM pl lim (fun b p => bF ec (c5 Q 3) (c5 Q 4) B b p + E p)) n ms j) (Fv j) (Bv j)) → L 0 = some (rv h0) → L 1 = some (iv v) → L 2 = some (iv fr) → fr + 2 < (N : Int) → S_ p l e (rmD 3 0 0) s m args below meth c (MQ below (QcI D G A Po) args s 0 0 A) D G A 3 0 0 33 L [] [(h0, ob 11 f), (hQ, ar 30 Q), (hB, ar 6 B), (hE, ar 6 E), (hA, ar 1206 A2_16), (hff, ar 31 Fv), (hbf, ar 31 Bv), (hsu, ar 6 Sv)] := by
        intro N
        induction N with
        | zero =>
          intro fr Fv Bv Sv L33 hfr hFv hBv hRj hL33_0 hL33_1 hL33_2 hN33
          exfalso; omega
        | succ N ih33 =>
          intro fr Fv Bv Sv L33 hfr hFv hBv hRj hL33_0 hL33_1 hL33_2 hN33
          refine S_iload_n X dX12_marks_33 rfl hL33_2 ?_
          refine S_if_lt (tgt := 48) X dX12_marks_34 (by decide) (by omega) (fun c_20 => ?_) (fun c_20 => ?_)
          ·
            have hf0 := hFv 0 (by omega) (by omega)
            refine S_aload_n X dX12_marks_48 rfl hL33_0 ?_
            refine S_get X fgX12_80_11 0 rfl hf11 dX12_marks_49 ?_
            refine S_iconst X dX12_marks_52 ?_
            refine S_iald X 5 rfl (by omega) (by omega) (nle rfl) dX12_marks_53 ?_
            refine S_iconst X dX12_marks_54 ?_
            refine S_icmp_ne (tgt := 62) X dX12_marks_55 (by decide) (by omega) (by decide) (fun c_21 => ?_) (fun c_21 => ?_)
            ·
              refine S_iload_n X dX12_marks_62 rfl hL33_1 ?_
              refine S_if_ne (tgt := 75) X dX12_marks_63 (by decide) (by omega) (fun c_22 => ?_) (fun c_22 => ?_)
              ·
                refine S_aload_n X dX12_marks_75 rfl hL33_0 ?_
                refine S_get X fgX12_83_11 0 rfl hf12 dX12_marks_76 ?_
                refine S_iconst X dX12_marks_79 ?_
                refine S_iald X 6 rfl (by omega) (by omega) (nle rfl) dX12_marks_80 ?_
                exact S_iret X (nle rfl) (nle rfl) dX12_marks_81 (hPo _ _ (⟨_, _, _, _, _, rfl, rfl, Or.inr ⟨by omega, by omega, _, _, hRj 0 (by omega) (by omega), Or.inr ⟨by omega, by first | rw [if_pos (by omega)] | rw [if_neg (by omega)]⟩⟩⟩))
              ·
                refine S_aload_n X dX12_marks_66 rfl hL33_0 ?_
                refine S_get X fgX12_80_11 0 rfl hf11 dX12_marks_67 ?_
                refine S_iconst X dX12_marks_70 ?_
                refine S_iald X 5 rfl (by omega) (by omega) (nle rfl) dX12_marks_71 ?_
                refine S_goto (tgt := 81) X dX12_marks_72 (by decide) ?_
                exact S_iret X (nle rfl) (nle rfl) dX12_marks_81 (hPo _ _ (⟨_, _, _, _, _, rfl, rfl, Or.inr ⟨by omega, by omega, _, _, hRj 0 (by omega) (by omega), Or.inr ⟨by omega, by first | rw [if_pos (by omega)] | rw [if_neg (by omega)]⟩⟩⟩))
            ·
              refine S_iconst X dX12_marks_58 ?_
              refine S_goto (tgt := 81) X dX12_marks_59 (by decide) ?_
              exact S_iret X (nle rfl) (nle rfl) dX12_marks_81 (hPo _ _ (⟨_, _, _, _, _, rfl, rfl, Or.inr ⟨by omega, by omega, _, _, hRj 0 (by omega) (by omega), Or.inl ⟨by omega, rfl⟩⟩⟩))
          ·
            refine S_aload_n X dX12_marks_37 rfl hL33_0 ?_
            refine S_iload_n X dX12_marks_38 rfl hL33_2 ?_
            refine S_callv X (kX12_marksFrom l h0 f pl n ec hE hA Q B E A2_16 lim hff hbf hsu Fv Bv Sv fr hf0 hf1 hf6 hf7 hf10 hf11 hf12 hf13 (by omega) hAL (by omega) (by omega) hFv hBv hRj) (is := [0, 4, 3, 5, 6, 7]) rfl (run_V X lkX12_346 0 rfl rfl (is := [0, 4, 3, 5, 6, 7]) (avs := [iv fr]) (rest := []) rfl rfl (nle rfl) ⟨nle rfl, nle rfl⟩ ⟨nle rfl, nle rfl⟩ dX12_marks_39 (by decide) rfl) (fun u_23 hp_24 => ?_)
            obtain ⟨F2_26, B2_27, S2_28, hu_30, hF2_31, hB2_32, hR2_33⟩ := hp_24
            subst hu_30
            refine ⟨rfl, ?_⟩
            refine S_w (ws' := [(h0, ob 11 f), (hQ, ar 30 Q), (hB, ar 6 B), (hE, ar 6 E), (hA, ar 1206 A2_16), (hff, ar 31 F2_26), (hbf, ar 31 B2_27), (hsu, ar 6 S2_28)]) rfl ?_
            refine S_iinc X dX12_marks_42 (nle rfl) hL33_2 ?_
            refine S_goto (tgt := 33) X dX12_marks_45 (by decide) ?_
            exact ih33 (fr + (-1)) F2_26 B2_27 S2_28 _ (by omega) (fun j j0 j1 => hF2_31 j (by omega) j1) (hB2_32) (fun j j0 j1 => hR2_33 j (by omega) j1) hL33_0 hL33_1 rfl (by omega)
      exact lp33_2 (Int.toNat ((n - 1) + 2) + 1) (n - 1) Ff B9 Su _ (by omega) (fun j j0 j1 => by omega) (hB9) (fun j j0 j1 => by omega) rfl rfl rfl (by omega)
