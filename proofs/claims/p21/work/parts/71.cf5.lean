def rwN : Nat → Int → Int
  | 0, s => if s < 0 ∨ 0 < s then 0 else 1
  | K + 1, s => if s < 0 ∨ (K + 1 : Int) * 2 < s then 0 else rwN K s + rwN K (s - 1) + rwN K (s - 2)
def p3 (K : Nat) : Int := if K = 0 then 1 else if K = 1 then 3 else if K = 2 then 9 else if K = 3 then 27 else if K = 4 then 81 else if K = 5 then 243 else 729
theorem p3_S {K : Nat} (h : K + 1 ≤ 6) : p3 (K + 1) = 3 * p3 K := by
  have : K = 0 ∨ K = 1 ∨ K = 2 ∨ K = 3 ∨ K = 4 ∨ K = 5 := by omega
  rcases this with rfl | rfl | rfl | rfl | rfl | rfl <;> rfl
theorem p3_in (K : Nat) : 1 ≤ p3 K ∧ p3 K ≤ 729 := by unfold p3; (repeat' split) <;> omega
theorem rw_in : ∀ K : Nat, K ≤ 6 → ∀ s, 0 ≤ rwN K s ∧ rwN K s ≤ p3 K := by
  intro K
  induction K with
  | zero => intro _ s; unfold rwN p3; split <;> simp
  | succ K ih =>
    intro h s
    have a := ih (by omega) s
    have b := ih (by omega) (s - 1)
    have d := ih (by omega) (s - 2)
    have e := p3_S h
    have e2 := p3_in K
    rw [rwN]
    split <;> omega
theorem okS.bt {pl n ec : Int} {Fo Ho B Lt F2 H2 B2 L2 Bv : Int → Int} (h : okS pl n ec Fo Ho B Lt) (e : teq pl Fo Ho B Lt F2 H2 B2 L2) (hb : ∀ x, 0 ≤ x → x < pl → 1 ≤ Bv x ∧ Bv x ≤ 199) : okS pl n ec F2 H2 Bv L2 := by
  obtain ⟨a1, a2, a3, a4, a5, a6, a⟩ := h
  refine ⟨a1, a2, a3, a4, a5, a6, fun p h0 h1 => ?_⟩
  obtain ⟨e1, e2, e3, e4⟩ := e p h0 h1
  have := a p h0 h1
  have k := hb p h0 h1
  rw [← e1, ← e2, ← e4]
  exact ⟨this.1, this.2.1, k, this.2.2.2⟩
theorem okS.b2 {pl n ec : Int} {Fo Ho B Lt Bv : Int → Int} (h : okS pl n ec Fo Ho B Lt) (hb : ∀ x, 0 ≤ x → x < pl → 1 ≤ Bv x ∧ Bv x ≤ 199) : okS pl n ec Fo Ho Bv Lt := h.bt (F2 := Fo) (H2 := Ho) (B2 := B) (L2 := Lt) (fun p _ _ => ⟨rfl, rfl, rfl, rfl⟩) hb
theorem mxd_q {K : Nat} (h : K + 1 ≤ 6) : mxd K = 10 * mxd (K + 1) + 9 := by
  have : K = 0 ∨ K = 1 ∨ K = 2 ∨ K = 3 ∨ K = 4 ∨ K = 5 := by omega
  rcases this with rfl | rfl | rfl | rfl | rfl | rfl <;> rfl
/-! WEEK: the class's walk over the rows that count, and the reference's over all -/
def wg (r : Int × Int) (re W : Int) : Int × Int := if (re < r.1 ∧ W ≤ r.2) ∨ W < r.2 then (re, W) else r
section CWN
variable (pl n ec mk : Int) (Fo Ho Lt Bh : Int → Int)
def cwN : Nat → Int → Int → Int → Int → (Int → Int) → Int × Int → Int × Int
  | 0, _, _, re, _, T, r => wg r re (WO pl n ec mk Fo Ho T Lt)
  | K + 1, da, vi, re, di, T, r => foldI (fun i q => if zShl 1 i = zAnd vi (-vi) then cwN K (da - 1) vi (re + i * di) (di * 10) T q else if zAnd vi (zShl 1 i) = 0 then cwN K (da - 1) (zOr vi (zShl 1 i)) (re + i * di) (di * 10) (uZ T i (Bh (i * 7 + da + 1))) q else q) pl r
end CWN
theorem vm_low : ∀ (v : Fin 64) (i : Fin 6), zShl 1 (i.val : Int) = zAnd (v.val : Int) (-(v.val : Int)) ↔ (zAnd (v.val : Int) (zShl 1 (i.val : Int)) ≠ 0 ∧ ∀ j : Fin 6, j < i → zAnd (v.val : Int) (zShl 1 (j.val : Int)) = 0) := by decide +kernel
theorem vm_or : ∀ (v : Fin 64) (i j : Fin 6), (0 ≤ zOr (v.val : Int) (zShl 1 (i.val : Int)) ∧ zOr (v.val : Int) (zShl 1 (i.val : Int)) ≤ 63) ∧ (zAnd (zOr (v.val : Int) (zShl 1 (i.val : Int))) (zShl 1 (j.val : Int)) = 0 ↔ j ≠ i ∧ zAnd (v.val : Int) (zShl 1 (j.val : Int)) = 0) := by decide +kernel
theorem vmI_low {v i : Int} (hv : 0 ≤ v ∧ v ≤ 63) (hi : 0 ≤ i ∧ i < 6) : zShl 1 i = zAnd v (-v) ↔ (zAnd v (zShl 1 i) ≠ 0 ∧ ∀ j, 0 ≤ j → j < i → zAnd v (zShl 1 j) = 0) := by
  have h := vm_low ⟨v.toNat, by omega⟩ ⟨i.toNat, by omega⟩
  dsimp only at h
  rw [show ((v.toNat : Nat) : Int) = v by omega, show ((i.toNat : Nat) : Int) = i by omega] at h
  rw [h]
  constructor
  · rintro ⟨h1, h2⟩
    refine ⟨h1, fun j j0 j1 => ?_⟩
    have h3 := h2 ⟨j.toNat, by omega⟩ (by show j.toNat < i.toNat; omega)
    dsimp only at h3
    rwa [show ((j.toNat : Nat) : Int) = j by omega] at h3
  · rintro ⟨h1, h2⟩
    refine ⟨h1, fun j hj => ?_⟩
    have h3 : j.val < i.toNat := hj
    exact h2 (j.val : Int) (by omega) (by omega)
theorem vmI_or {v i : Int} (hv : 0 ≤ v ∧ v ≤ 63) (hi : 0 ≤ i ∧ i < 6) : (0 ≤ zOr v (zShl 1 i) ∧ zOr v (zShl 1 i) ≤ 63) ∧ ∀ j, 0 ≤ j → j < 6 → (zAnd (zOr v (zShl 1 i)) (zShl 1 j) = 0 ↔ j ≠ i ∧ zAnd v (zShl 1 j) = 0) := by
  have key : ∀ j : Int, 0 ≤ j → j < 6 → (0 ≤ zOr v (zShl 1 i) ∧ zOr v (zShl 1 i) ≤ 63) ∧ (zAnd (zOr v (zShl 1 i)) (zShl 1 j) = 0 ↔ j ≠ i ∧ zAnd v (zShl 1 j) = 0) := by
    intro j j0 j1
    obtain ⟨h1, h2⟩ := vm_or ⟨v.toNat, by omega⟩ ⟨i.toNat, by omega⟩ ⟨j.toNat, by omega⟩
    dsimp only at h1 h2
    rw [show ((v.toNat : Nat) : Int) = v by omega, show ((i.toNat : Nat) : Int) = i by omega] at h1 h2
    rw [show ((j.toNat : Nat) : Int) = j by omega] at h2
    refine ⟨h1, h2.trans ⟨fun q => ⟨fun e => q.1 (Fin.ext (by show j.toNat = i.toNat; omega)), q.2⟩, fun q => ⟨fun e => q.1 ?_, q.2⟩⟩⟩
    have e2 : j.toNat = i.toNat := congrArg Fin.val e
    omega
  exact ⟨(key 0 (by omega) (by omega)).1, fun j j0 j1 => (key j j0 j1).2⟩
def p10 : Nat → Int
  | 0 => 1
  | k + 1 => p10 k * 10
theorem p10_pos : ∀ k, 1 ≤ p10 k := by
  intro k
  induction k with
  | zero => exact Int.le_refl 1
  | succ k ih =>
    show 1 ≤ p10 k * 10
    omega
theorem p10_add : ∀ m k, p10 (m + k) = p10 m * p10 k := by
  intro m k
  induction k with
  | zero => exact (Int.mul_one _).symm
  | succ k ih =>
    show p10 (m + k) * 10 = p10 m * (p10 k * 10)
    rw [ih, Int.mul_assoc]
def dgl : List Int → Int
  | [] => 0
  | a :: ys => dgl ys + a * p10 ys.length
theorem dgl_app : ∀ xs ys : List Int, dgl (xs ++ ys) = dgl ys + dgl xs * p10 ys.length := by
  intro xs
  induction xs with
  | nil =>
    intro ys
    show dgl ys = dgl ys + 0 * p10 ys.length
    rw [Int.zero_mul, Int.add_zero]
  | cons a r ih =>
    intro ys
    show dgl (r ++ ys) + a * p10 (r ++ ys).length = dgl ys + (dgl r + a * p10 r.length) * p10 ys.length
    rw [ih, List.length_append, p10_add, Int.add_mul, Int.mul_assoc]
    omega
theorem dgl_snoc (xs : List Int) (a : Int) : dgl (xs ++ [a]) = 10 * dgl xs + a := by
  rw [dgl_app]
  show (0 + a * 1) + dgl xs * (1 * 10) = _
  omega
theorem dgl_in : ∀ zs : List Int, (∀ a ∈ zs, 0 ≤ a ∧ a ≤ 9) → 0 ≤ dgl zs ∧ dgl zs + 1 ≤ p10 zs.length := by
  intro zs
  induction zs with
  | nil => exact fun _ => ⟨Int.le_refl 0, by show (0 : Int) + 1 ≤ 1; omega⟩
  | cons a r ih =>
    intro h
    obtain ⟨h1, h2⟩ := ih (fun x hx => h x (List.mem_cons_of_mem _ hx))
    have ha := h a List.mem_cons_self
    have hp := p10_pos r.length
    have m1 : 0 ≤ a * p10 r.length := Int.mul_nonneg ha.1 (by omega)
    have m2 : a * p10 r.length ≤ 9 * p10 r.length := Int.mul_le_mul_of_nonneg_right ha.2 (by omega)
    show 0 ≤ dgl r + a * p10 r.length ∧ dgl r + a * p10 r.length + 1 ≤ p10 r.length * 10
    omega
theorem dgl_lt {pre zs z2 : List Int} {a b : Int} (hl : zs.length = z2.length) (h1 : ∀ x ∈ zs, 0 ≤ x ∧ x ≤ 9) (h2 : ∀ x ∈ z2, 0 ≤ x ∧ x ≤ 9) (hab : a < b) : dgl (pre ++ a :: zs) ≤ dgl (pre ++ b :: z2) := by
  have k1 := dgl_in zs h1
  have k2 := dgl_in z2 h2
  have hp := p10_pos zs.length
  have m1 : (a + 1) * p10 zs.length ≤ b * p10 zs.length := Int.mul_le_mul_of_nonneg_right (by omega) (by omega)
  rw [Int.add_mul, Int.one_mul] at m1
  rw [dgl_app, dgl_app]
  show dgl zs + a * p10 zs.length + dgl pre * p10 (zs.length + 1) ≤ dgl z2 + b * p10 z2.length + dgl pre * p10 (z2.length + 1)
  rw [← hl]
  rw [← hl] at k2
  omega
theorem snocW : ∀ l : List Int, l = [] ∨ ∃ r b, l = r ++ [b] := by
  intro l
  induction l with
  | nil => exact Or.inl rfl
  | cons x l ih =>
    right
    rcases ih with rfl | ⟨r, b, rfl⟩
    · exact ⟨[], x, rfl⟩
    · exact ⟨x :: r, b, rfl⟩
/-- BEATS behind a row: of each PLAYER by its last DAY with the METRONOME -/
def bhf (Bh : Int → Int) : List Int → Int → Int
  | [], p => Bh (p * 7 + (-1) + 1)
  | a :: ys, p => if p = a ∧ a ∉ ys then Bh (p * 7 + (5 - (ys.length : Int)) + 1) else bhf Bh ys p
theorem bhf_mem {Bh : Int → Int} {a : Int} {ys : List Int} (h : a ∈ ys) (p : Int) : bhf Bh (a :: ys) p = bhf Bh ys p := if_neg (fun q => q.2 h)
theorem bhf_ne {Bh : Int → Int} {a : Int} {ys : List Int} {p : Int} (h : p ≠ a) : bhf Bh (a :: ys) p = bhf Bh ys p := if_neg (fun q => h q.1)
theorem bhf_at {Bh : Int → Int} {a : Int} {ys : List Int} (h : a ∉ ys) : bhf Bh (a :: ys) a = Bh (a * 7 + (5 - (ys.length : Int)) + 1) := if_pos ⟨rfl, h⟩
theorem bhf_out {Bh : Int → Int} : ∀ (ys : List Int) (p : Int), p ∉ ys → bhf Bh ys p = Bh (p * 7 + (-1) + 1) := by
  intro ys
  induction ys with
  | nil => exact fun p _ => rfl
  | cons a r ih =>
    intro p hp
    rw [bhf_ne (fun e => hp (by rw [e]; exact List.mem_cons_self))]
    exact ih p (fun q => hp (List.mem_cons_of_mem _ q))
/-- the rows that the class walks -/
def okE (pl : Int) : List Int → Prop
  | [] => True
  | a :: ys => okE pl ys ∧ (0 ≤ a ∧ a < pl) ∧ (a ∈ ys → ∀ j ∈ ys, a ≤ j)
theorem okE_suf {pl : Int} : ∀ zs ys : List Int, okE pl (zs ++ ys) → okE pl ys := by
  intro zs
  induction zs with
  | nil => exact fun ys h => h
  | cons a r ih => exact fun ys h => ih ys h.1
theorem okE_rng {pl : Int} : ∀ ys : List Int, okE pl ys → ∀ a ∈ ys, 0 ≤ a ∧ a < pl := by
  intro ys
  induction ys with
  | nil => exact fun _ a ha => absurd ha List.not_mem_nil
  | cons b r ih =>
    intro h a ha
    rcases List.mem_cons.mp ha with e | e
    · rw [e]; exact h.2.1
    · exact ih h.1 a e
def ExW (pl : Int) (K : Nat) (ys x : List Int) : Prop := okE pl x ∧ ∃ zs, x = zs ++ ys ∧ zs.length = K
theorem ExW_S {pl : Int} {K : Nat} {ys x : List Int} : (∃ a, (0 ≤ a ∧ a < pl) ∧ ExW pl K (a :: ys) x) ↔ ExW pl (K + 1) ys x := by
  constructor
  · rintro ⟨a, ha, h, zs, e, l⟩
    exact ⟨h, zs ++ [a], by rw [e, List.append_assoc]; rfl, by rw [List.length_append, l]; rfl⟩
  · rintro ⟨h, zs, e, l⟩
    rcases snocW zs with rfl | ⟨r, a, rfl⟩
    · exact absurd l (by show ¬ 0 = K + 1; omega)
    · have e2 : x = r ++ a :: ys := by rw [e, List.append_assoc]; rfl
      rw [List.length_append] at l
      refine ⟨a, ?_, h, r, e2, by have l2 : r.length + 1 = K + 1 := l; omega⟩
      exact (okE_suf r (a :: ys) (by rw [← e2]; exact h)).2.1
/-- the least of some rows: by how much, then by its digits -/
def LXm (S : List Int → Prop) (W : List Int → Int) (r : Int × Int) : Prop := (∃ x, S x ∧ r = (dgl x, W x)) ∧ ∀ x, S x → r.2 < W x ∨ (r.2 = W x ∧ r.1 ≤ dgl x)
def LX (S : List Int → Prop) (W : List Int → Int) (r : Int × Int) : Prop := (r = (1000000000, 1000000000) ∧ ∀ x, ¬ S x) ∨ LXm S W r
def LRf (S : List Int → Prop) (W : List Int → Int) (r : Int × Int) : Prop := (r.1 = -1 ∧ ∀ x, ¬ S x) ∨ (0 ≤ r.1 ∧ LXm S W r)
theorem LXm_e {S T : List Int → Prop} {W : List Int → Int} {r : Int × Int} (e : ∀ x, S x ↔ T x) (h : LXm S W r) : LXm T W r := by
  obtain ⟨⟨x, x1, x2⟩, x3⟩ := h
  exact ⟨⟨x, (e x).mp x1, x2⟩, fun y hy => x3 y ((e y).mpr hy)⟩
theorem LX_e {S T : List Int → Prop} {W : List Int → Int} {r : Int × Int} (e : ∀ x, S x ↔ T x) (h : LX S W r) : LX T W r := by
  rcases h with ⟨h1, h2⟩ | h
  · exact Or.inl ⟨h1, fun x hx => h2 x ((e x).mpr hx)⟩
  · exact Or.inr (LXm_e e h)
theorem LRf_e {S T : List Int → Prop} {W : List Int → Int} {r : Int × Int} (e : ∀ x, S x ↔ T x) (h : LRf S W r) : LRf T W r := by
  rcases h with ⟨h1, h2⟩ | h
  · exact Or.inl ⟨h1, fun x hx => h2 x ((e x).mpr hx)⟩
  · exact Or.inr ⟨h.1, LXm_e e h.2⟩
theorem LXm_new {S : List Int → Prop} {W : List Int → Int} {x0 : List Int} (h : ∀ x, S x → W x0 < W x ∨ (W x0 = W x ∧ dgl x0 ≤ dgl x)) : LXm (fun x => S x ∨ x = x0) W (dgl x0, W x0) := by
  refine ⟨⟨x0, Or.inr rfl, rfl⟩, fun y hy => ?_⟩
  show W x0 < W y ∨ (W x0 = W y ∧ dgl x0 ≤ dgl y)
  rcases hy with hy | hy
  · exact h y hy
  · rw [hy]
    exact Or.inr ⟨rfl, Int.le_refl _⟩
theorem LXm_old {S : List Int → Prop} {W : List Int → Int} {r : Int × Int} {x0 : List Int} (h : LXm S W r) (h0 : r.2 < W x0 ∨ (r.2 = W x0 ∧ r.1 ≤ dgl x0)) : LXm (fun x => S x ∨ x = x0) W r := by
  obtain ⟨⟨x, x1, x2⟩, x3⟩ := h
  refine ⟨⟨x, Or.inl x1, x2⟩, fun y hy => ?_⟩
  rcases hy with hy | hy
  · exact x3 y hy
  · rw [hy]
    exact h0
theorem LX_wg {S : List Int → Prop} {W : List Int → Int} {r : Int × Int} {x0 : List Int} (h : LX S W r) (hd : dgl x0 ≤ 999999) (hW : W x0 ≤ 7470) : LX (fun x => S x ∨ x = x0) W (wg r (dgl x0) (W x0)) := by
  unfold wg
  rcases h with ⟨h1, h2⟩ | h
  · rw [h1, if_pos (Or.inl ⟨by show dgl x0 < 1000000000; omega, by show W x0 ≤ 1000000000; omega⟩)]
    exact Or.inr (LXm_new (fun x hx => absurd hx (h2 x)))
  · have x3 := h.2
    by_cases c : (dgl x0 < r.1 ∧ W x0 ≤ r.2) ∨ W x0 < r.2
    · rw [if_pos c]
      exact Or.inr (LXm_new (fun x hx => by have := x3 x hx; omega))
    · rw [if_neg c]
      exact Or.inr (LXm_old h (by omega))
theorem LRf_st {S : List Int → Prop} {W : List Int → Int} {r : Int × Int} {x0 : List Int} (h : LRf S W r) (hS : ∀ x, S x → dgl x ≤ dgl x0) (h0 : 0 ≤ dgl x0) : LRf (fun x => S x ∨ x = x0) W (if r.1 = -1 ∨ W x0 < r.2 then (dgl x0, W x0) else r) := by
  rcases h with ⟨h1, h2⟩ | ⟨h1, h⟩
  · rw [if_pos (Or.inl h1)]
    exact Or.inr ⟨h0, LXm_new (fun x hx => absurd hx (h2 x))⟩
  · obtain ⟨⟨x, x1, x2⟩, x3⟩ := id h
    by_cases c : r.1 = -1 ∨ W x0 < r.2
    · rw [if_pos c]
      exact Or.inr ⟨h0, LXm_new (fun y hy => by have k := x3 y hy; omega)⟩
    · rw [if_neg c]
      have e1 : r.1 = dgl x := by rw [x2]
      have k := hS x x1
      exact Or.inr ⟨h1, LXm_old h (by omega)⟩
section CW
variable {pl n ec mk : Int} {Fo Ho Lt Bh B0 : Int → Int}
theorem LX_fold {E : Int → List Int → Prop} {W : List Int → Int} {f : Int → Int × Int → Int × Int} {S : List Int → Prop} (h : ∀ (a : Int) (q : Int × Int) (S2 : List Int → Prop), 0 ≤ a → a < pl → LX S2 W q → LX (fun x => S2 x ∨ E a x) W (f a q)) (r : Int × Int) (hr : LX S W r) : ∀ p, 0 ≤ p → p ≤ pl → LX (fun x => S x ∨ ∃ a, (0 ≤ a ∧ a < p) ∧ E a x) W (foldI f p r) := by
  refine upI (fun _ => ?_) (fun p hp ih h1 => ?_)
  · rw [foldI_0]
    exact LX_e (fun x => ⟨fun q => Or.inl q, fun q => q.elim id (fun ⟨a, ha, _⟩ => absurd ha (by omega))⟩) hr
  · rw [foldI_S hp]
    refine LX_e (fun x => ?_) (h p _ _ hp (by omega) (ih (by omega)))
    constructor
    · rintro ((q | ⟨a, ha, q⟩) | q)
      · exact Or.inl q
      · exact Or.inr ⟨a, ⟨ha.1, by omega⟩, q⟩
      · exact Or.inr ⟨p, ⟨hp, by omega⟩, q⟩
    · rintro (q | ⟨a, ha, q⟩)
      · exact Or.inl (Or.inl q)
      · by_cases c : a = p
        · rw [c] at q
          exact Or.inr q
        · exact Or.inl (Or.inr ⟨a, ⟨ha.1, by omega⟩, q⟩)
theorem bhf_in (hB : ∀ x d, 0 ≤ x → x < pl → -1 ≤ d → d ≤ 5 → 1 ≤ Bh (x * 7 + d + 1) ∧ Bh (x * 7 + d + 1) ≤ 199) : ∀ ys : List Int, ys.length ≤ 6 → ∀ p, 0 ≤ p → p < pl → 1 ≤ bhf Bh ys p ∧ bhf Bh ys p ≤ 199 := by
  intro ys
  induction ys with
  | nil => exact fun _ p h0 h1 => hB p (-1) h0 h1 (by omega) (by omega)
  | cons a r ih =>
    intro hl p h0 h1
    have hl2 : r.length + 1 ≤ 6 := hl
    unfold bhf
    split
    · exact hB p _ h0 h1 (by omega) (by omega)
    · exact ih (by omega) p h0 h1
/-- the class's walk finds the least of its rows -/
theorem cw_LX (hs : okS pl n ec Fo Ho B0 Lt) (hB : ∀ x d, 0 ≤ x → x < pl → -1 ≤ d → d ≤ 5 → 1 ≤ Bh (x * 7 + d + 1) ∧ Bh (x * 7 + d + 1) ≤ 199) : ∀ (K : Nat) (ys : List Int) (vi da re di : Int) (T : Int → Int) (r : Int × Int) (S : List Int → Prop), ys.length + K = 6 → da + 1 = (K : Int) → re = dgl ys → di = p10 ys.length → (0 ≤ vi ∧ vi ≤ 63) → (∀ j, 0 ≤ j → j < 6 → (zAnd vi (zShl 1 j) = 0 ↔ j ∉ ys)) → (∀ p, 0 ≤ p → p < pl → T p = bhf Bh ys p) → okE pl ys → LX S (fun x => WO pl n ec mk Fo Ho (bhf Bh x) Lt) r → LX (fun x => S x ∨ ExW pl K ys x) (fun x => WO pl n ec mk Fo Ho (bhf Bh x) Lt) (cwN pl n ec mk Fo Ho Lt Bh K da vi re di T r) := by
  have hp6 := hs.2.1
  have hp1 := hs.1
  intro K
  induction K with
  | zero =>
    intro ys vi da re di T r S hl hda hre hdi hvi hms hT hok hr
    have hin := bhf_in hB ys (by omega)
    have hsb : okS pl n ec Fo Ho (bhf Bh ys) Lt := hs.b2 hin
    have eW : WO pl n ec mk Fo Ho T Lt = WO pl n ec mk Fo Ho (bhf Bh ys) Lt := (WO_c hsb (fun p h0 h1 => ⟨rfl, rfl, (hT p h0 h1).symm, rfl⟩)).symm
    have hd := dgl_in ys (fun a ha => by have := okE_rng ys hok a ha; omega)
    have h6 : p10 ys.length = 1000000 := by rw [show ys.length = 6 by omega]; rfl
    have h9 := LX_wg (x0 := ys) hr (by omega) hsb.worst.2
    rw [cwN, eW, hre]
    refine LX_e (fun x => ?_) h9
    constructor
    · rintro (q | q)
      · exact Or.inl q
      · exact Or.inr ⟨by rw [q]; exact hok, [], q, rfl⟩
    · rintro (q | ⟨_, zs, e, l⟩)
      · exact Or.inl q
      · right
        rw [e, List.eq_nil_of_length_eq_zero l]
        rfl
  | succ K ih =>
    intro ys vi da re di T r S hl hda hre hdi hvi hms hT hok hr
    rw [cwN]
    refine LX_e (fun x => ?_) (LX_fold (E := fun a x => ExW pl K (a :: ys) x) (pl := pl) ?_ r hr pl (by omega) (Int.le_refl pl))
    · constructor
      · rintro (q | q)
        · exact Or.inl q
        · exact Or.inr (ExW_S.mp q)
      · rintro (q | q)
        · exact Or.inl q
        · exact Or.inr (ExW_S.mpr q)
    · intro a q S2 h0 h1 hq
      have hlo := vmI_low hvi (i := a) ⟨h0, by omega⟩
      have hma := hms a h0 (by omega)
      by_cases c1 : zShl 1 a = zAnd vi (-vi)
      · obtain ⟨g1, g2⟩ := hlo.mp c1
        have hin : a ∈ ys := Classical.byContradiction (fun h9 => g1 (hma.mpr h9))
        first | rw [if_pos c1] | (dsimp only; rw [if_pos c1])
        refine ih (a :: ys) vi (da - 1) _ _ T q S2 (by show ys.length + 1 + K = 6; omega) (by omega) (by rw [hre, hdi]; rfl) (by rw [hdi]; rfl) hvi (fun j j0 j1 => (hms j j0 j1).trans ⟨fun k e => ?_, fun k e => k (List.mem_cons_of_mem _ e)⟩) (fun p p0 p1 => by rw [bhf_mem hin]; exact hT p p0 p1) ⟨hok, ⟨h0, h1⟩, fun _ j hj => ?_⟩ hq
        · rcases List.mem_cons.mp e with e | e
          · rw [e] at k; exact k hin
          · exact k e
        · have hjr := okE_rng ys hok j hj
          refine Int.not_lt.mp (fun hlt => ?_)
          exact (hms j hjr.1 (by omega)).mp (g2 j hjr.1 hlt) hj
      · by_cases c2 : zAnd vi (zShl 1 a) = 0
        · have hna := hma.mp c2
          obtain ⟨o1, o2⟩ := vmI_or hvi (i := a) ⟨h0, by omega⟩
          first | rw [if_neg c1, if_pos c2] | (dsimp only; rw [if_neg c1, if_pos c2])
          refine ih (a :: ys) _ (da - 1) _ _ _ q S2 (by show ys.length + 1 + K = 6; omega) (by omega) (by rw [hre, hdi]; rfl) (by rw [hdi]; rfl) o1 (fun j j0 j1 => (o2 j j0 j1).trans ⟨fun k e => ?_, fun k => ⟨fun e => k (by rw [e]; exact List.mem_cons_self), (hms j j0 j1).mpr (fun e => k (List.mem_cons_of_mem _ e))⟩⟩) (fun p p0 p1 => ?_) ⟨hok, ⟨h0, h1⟩, fun e => absurd e hna⟩ hq
          · rcases List.mem_cons.mp e with e | e
            · exact k.1 e
            · exact (hms j j0 j1).mp k.2 e
          · by_cases e : p = a
            · rw [e, uZ_at, bhf_at hna, show (5 - (ys.length : Int)) = da by omega]
            · rw [uZ_ne e, bhf_ne e]
              exact hT p p0 p1
        · first | rw [if_neg c1, if_neg c2] | (dsimp only; rw [if_neg c1, if_neg c2])
          refine LX_e (fun x => ⟨fun k => Or.inl k, fun k => k.elim id (fun ⟨hx, zs, e, l⟩ => ?_)⟩) hq
          exfalso
          have hx2 := okE_suf zs (a :: ys) (by rw [← e]; exact hx)
          have hin : a ∈ ys := Classical.byContradiction (fun h9 => c2 (hma.mpr h9))
          refine c1 (hlo.mpr ⟨c2, fun j j0 j1 => (hms j j0 (by omega)).mpr (fun hj => ?_)⟩)
          have := hx2.2.2 hin j hj
          omega
end CW
/-! the reference's walk -/
def pasL (Kd Dr : Int → Int) (mt pl : Int) (wet : Int → Int) : Int → List Int → (Int → Int) → Int → Int
  | _, [], B => B
  | i, a :: zs, B => pasL Kd Dr mt pl wet (i + 1) zs (paF Kd Dr mt a (wet i) pl B)
theorem pasL_snoc {Kd Dr wet : Int → Int} {mt pl a : Int} : ∀ (xs : List Int) (i : Int) (B : Int → Int), pasL Kd Dr mt pl wet i (xs ++ [a]) B = paF Kd Dr mt a (wet (i + (xs.length : Int))) pl (pasL Kd Dr mt pl wet i xs B) := by
  intro xs
  induction xs with
  | nil =>
    intro i B
    show paF Kd Dr mt a (wet i) pl B = paF Kd Dr mt a (wet (i + 0)) pl B
    rw [Int.add_zero]
  | cons b r ih =>
    intro i B
    show pasL Kd Dr mt pl wet (i + 1) (r ++ [a]) (paF Kd Dr mt b (wet i) pl B) = _
    rw [ih, List.length_cons, show i + 1 + (r.length : Int) = i + ((r.length + 1 : Nat) : Int) by omega]
    rfl
def RxW (pl : Int) (K : Nat) (pre x : List Int) : Prop := ∃ zs, x = pre ++ zs ∧ zs.length = K ∧ ∀ a ∈ zs, 0 ≤ a ∧ a < pl
theorem RxW_S {pl : Int} {K : Nat} {pre x : List Int} : (∃ a, (0 ≤ a ∧ a < pl) ∧ RxW pl K (pre ++ [a]) x) ↔ RxW pl (K + 1) pre x := by
  constructor
  · rintro ⟨a, ha, zs, e, l, h⟩
    refine ⟨a :: zs, by rw [e, List.append_assoc]; rfl, by show zs.length + 1 = K + 1; omega, fun x hx => ?_⟩
    rcases List.mem_cons.mp hx with e | e
    · rw [e]; exact ha
    · exact h x e
  · rintro ⟨zs, e, l, h⟩
    cases zs with
    | nil => exact absurd l (by show ¬ 0 = K + 1; omega)
    | cons a r =>
      refine ⟨a, h a List.mem_cons_self, r, by rw [e, List.append_assoc]; rfl, by have l2 : r.length + 1 = K + 1 := l; omega, fun x hx => h x (List.mem_cons_of_mem _ hx)⟩
section RW2
variable {pl n ec mk mt : Int} {Fo Ho Lt Kd Dr wet B0 : Int → Int}
theorem wk_LR (hp : 0 ≤ pl ∧ pl ≤ 6) : ∀ (K : Nat) (pre : List Int) (i dg : Int) (B : Int → Int) (r : Int × Int) (S : List Int → Prop), i = (pre.length : Int) → dg = dgl pre → 0 ≤ dg → B = pasL Kd Dr mt pl wet 0 pre B0 → LRf S (fun x => WO pl n ec mk Fo Ho (pasL Kd Dr mt pl wet 0 x B0) Lt) r → (∀ x x2, S x → RxW pl K pre x2 → dgl x ≤ dgl x2) → LRf (fun x => S x ∨ RxW pl K pre x) (fun x => WO pl n ec mk Fo Ho (pasL Kd Dr mt pl wet 0 x B0) Lt) (wkN pl n ec mk mt Fo Ho Lt Kd Dr wet K i dg B r) := by
  intro K
  induction K with
  | zero =>
    intro pre i dg B r S hi hdg hd0 hB hr hS
    have h9 := LRf_st (x0 := pre) hr (fun x hx => hS x pre hx ⟨[], (List.append_nil pre).symm, rfl, fun a ha => absurd ha List.not_mem_nil⟩) (by omega)
    rw [wkN, hB, hdg]
    refine LRf_e (fun x => ?_) h9
    constructor
    · rintro (q | q)
      · exact Or.inl q
      · exact Or.inr ⟨[], by rw [List.append_nil]; exact q, rfl, fun a ha => absurd ha List.not_mem_nil⟩
    · rintro (q | ⟨zs, e, l, _⟩)
      · exact Or.inl q
      · right
        rw [e, List.eq_nil_of_length_eq_zero l, List.append_nil]
  | succ K ih =>
    intro pre i dg B r S hi hdg hd0 hB hr hS
    rw [wkN]
    have key : ∀ p, 0 ≤ p → p ≤ pl → LRf (fun x => S x ∨ ∃ a, (0 ≤ a ∧ a < p) ∧ RxW pl K (pre ++ [a]) x) (fun x => WO pl n ec mk Fo Ho (pasL Kd Dr mt pl wet 0 x B0) Lt) (foldI (fun a q => wkN pl n ec mk mt Fo Ho Lt Kd Dr wet K (i + 1) (10 * dg + a) (paF Kd Dr mt a (wet i) pl B) q) p r) := by
      refine upI (fun _ => ?_) (fun p h0 ihp h1 => ?_)
      · rw [foldI_0]
        exact LRf_e (fun x => ⟨fun q => Or.inl q, fun q => q.elim id (fun ⟨a, ha, _⟩ => absurd ha (by omega))⟩) hr
      · rw [foldI_S h0]
        refine LRf_e (fun x => ?_) (ih (pre ++ [p]) (i + 1) (10 * dg + p) _ _ _ (by rw [List.length_append]; show i + 1 = ((pre.length + 1 : Nat) : Int); omega) (by rw [dgl_snoc, hdg]) (by omega) (by rw [pasL_snoc, hB, Int.zero_add, ← hi]) (ihp (by omega)) ?_)
        · constructor
          · rintro ((q | ⟨a, ha, q⟩) | q)
            · exact Or.inl q
            · exact Or.inr ⟨a, ⟨ha.1, by omega⟩, q⟩
            · exact Or.inr ⟨p, ⟨h0, by omega⟩, q⟩
          · rintro (q | ⟨a, ha, q⟩)
            · exact Or.inl (Or.inl q)
            · by_cases c : a = p
              · rw [c] at q
                exact Or.inr q
              · exact Or.inl (Or.inr ⟨a, ⟨ha.1, by omega⟩, q⟩)
        · rintro x x2 (q | ⟨a, ha, zs, e, l, hz⟩) ⟨z2, e2, l2, hz2⟩
          · exact hS x x2 q (RxW_S.mp ⟨p, ⟨h0, by omega⟩, z2, e2, l2, hz2⟩)
          · rw [e, e2, List.append_assoc, List.append_assoc]
            exact dgl_lt (zs := zs) (z2 := z2) (l.trans l2.symm) (fun y hy => by have := hz y hy; omega) (fun y hy => by have := hz2 y hy; omega) ha.2
    refine LRf_e (fun x => ?_) (key pl hp.1 (Int.le_refl pl))
    constructor
    · rintro (q | q)
      · exact Or.inl q
      · exact Or.inr (RxW_S.mp q)
    · rintro (q | q)
      · exact Or.inl q
      · exact Or.inr (RxW_S.mpr q)
end RW2
/-- the least of a list -/
theorem lowW : ∀ ys : List Int, ys ≠ [] → ∃ m ∈ ys, ∀ j ∈ ys, m ≤ j := by
  intro ys
  induction ys with
  | nil => exact fun h => absurd rfl h
  | cons a r ih =>
    intro _
    by_cases hr : r = []
    · refine ⟨a, List.mem_cons_self, fun j hj => ?_⟩
      rcases List.mem_cons.mp hj with e | e
      · rw [e]; exact Int.le_refl _
      · rw [hr] at e; exact absurd e List.not_mem_nil
    · obtain ⟨m, m1, m2⟩ := ih hr
      by_cases c : a ≤ m
      · refine ⟨a, List.mem_cons_self, fun j hj => ?_⟩
        rcases List.mem_cons.mp hj with e | e
        · rw [e]; exact Int.le_refl _
        · have := m2 j e; omega
      · refine ⟨m, List.mem_cons_of_mem _ m1, fun j hj => ?_⟩
        rcases List.mem_cons.mp hj with e | e
        · rw [e]; omega
        · exact m2 j e
/-- each row has one of the class's that is alike and no greater -/
theorem domW {pl : Int} {Bh : Int → Int} : ∀ ys : List Int, (∀ a ∈ ys, 0 ≤ a ∧ a < pl) → ∃ y2, okE pl y2 ∧ y2.length = ys.length ∧ (∀ j, j ∈ y2 ↔ j ∈ ys) ∧ (∀ p, bhf Bh y2 p = bhf Bh ys p) ∧ dgl y2 ≤ dgl ys := by
  intro ys
  induction ys with
  | nil => exact fun _ => ⟨[], trivial, rfl, fun j => Iff.rfl, fun p => rfl, Int.le_refl _⟩
  | cons a r ih =>
    intro h
    obtain ⟨y2, h1, h2, h3, h4, h5⟩ := ih (fun x hx => h x (List.mem_cons_of_mem _ hx))
    have ha := h a List.mem_cons_self
    have hp := p10_pos r.length
    by_cases c : a ∈ r
    · have c2 := (h3 a).mpr c
      obtain ⟨m, m1, m2⟩ := lowW y2 (fun e => by rw [e] at c2; exact List.not_mem_nil c2)
      have hm := okE_rng y2 h1 m m1
      have k := Int.mul_le_mul_of_nonneg_right (m2 a c2) (show 0 ≤ p10 r.length by omega)
      refine ⟨m :: y2, ⟨h1, hm, fun _ => m2⟩, by rw [List.length_cons, List.length_cons, h2], fun j => ⟨fun hj => ?_, fun hj => ?_⟩, fun p => ?_, ?_⟩
      · rcases List.mem_cons.mp hj with e | e
        · rw [e]; exact List.mem_cons_of_mem _ ((h3 m).mp m1)
        · exact List.mem_cons_of_mem _ ((h3 j).mp e)
      · rcases List.mem_cons.mp hj with e | e
        · rw [e]; exact List.mem_cons_of_mem _ c2
        · exact List.mem_cons_of_mem _ ((h3 j).mpr e)
      · rw [bhf_mem m1, bhf_mem c]
        exact h4 p
      · show dgl y2 + m * p10 y2.length ≤ dgl r + a * p10 r.length
        rw [h2]
        omega
    · have c2 : a ∉ y2 := fun e => c ((h3 a).mp e)
      refine ⟨a :: y2, ⟨h1, ha, fun e => absurd e c2⟩, by rw [List.length_cons, List.length_cons, h2], fun j => ⟨fun hj => ?_, fun hj => ?_⟩, fun p => ?_, ?_⟩
      · rcases List.mem_cons.mp hj with e | e
        · rw [e]; exact List.mem_cons_self
        · exact List.mem_cons_of_mem _ ((h3 j).mp e)
      · rcases List.mem_cons.mp hj with e | e
        · rw [e]; exact List.mem_cons_self
        · exact List.mem_cons_of_mem _ ((h3 j).mpr e)
      · by_cases e : p = a
        · rw [e, bhf_at c, bhf_at c2, h2]
        · rw [bhf_ne e, bhf_ne e]
          exact h4 p
      · show dgl y2 + a * p10 y2.length ≤ dgl r + a * p10 r.length
        rw [h2]
        omega
theorem drW_comp {kd dr m s d b : Int} (hk : 0 ≤ kd ∧ kd ≤ 3) (hd : 0 ≤ dr ∧ dr ≤ 9) (hm : 0 ≤ m) (hs : 0 ≤ s) (h0 : 0 ≤ d) (hb : 1 ≤ b ∧ b ≤ 199) : drF kd dr m s (drF kd dr 1 d b) = drF kd dr (m + 1) (s + d) b := by
  have e1 : dr * (m + 1) = dr * m + dr := by rw [Int.mul_add, Int.mul_one]
  have e2 : dr * (s + d) = dr * s + dr * d := Int.mul_add _ _ _
  have p1 : 0 ≤ dr * m := Int.mul_nonneg hd.1 hm
  have p2 : 0 ≤ dr * s := Int.mul_nonneg hd.1 hs
  have p3 : 0 ≤ dr * d := Int.mul_nonneg hd.1 h0
  have e3 : dr * 1 = dr := Int.mul_one dr
  unfold drF
  by_cases c : kd.tmod 2 = 0
  · rw [if_pos c, if_pos c, if_pos c]
    by_cases c2 : kd < 2
    · rw [if_pos c2, if_pos c2, if_pos c2, e1, e3]; omega
    · rw [if_neg c2, if_neg c2, if_neg c2, e2]; omega
  · rw [if_neg c, if_neg c, if_neg c]
    by_cases c2 : kd < 2
    · rw [if_pos c2, if_pos c2, if_pos c2, e1, e3]; omega
    · rw [if_neg c2, if_neg c2, if_neg c2, e2]; omega
theorem drW_00 {kd dr b : Int} (hb : 1 ≤ b ∧ b ≤ 199) : drF kd dr 0 0 b = b := by
  have e : dr * 0 = 0 := Int.mul_zero dr
  unfold drF
  have e2 : (if kd < 2 then (0 : Int) else 0) = 0 := by split <;> rfl
  rw [e2, e]
  split <;> omega
/-- the DAMPS of the DAYS behind this one -/
def sfW (wet : Int → Int) (d : Int) : Int := smI (fun k => wet (5 - k)) (5 - d)
theorem sfW_5 {wet : Int → Int} : sfW wet 5 = 0 := rfl
theorem sfW_S {wet : Int → Int} {d : Int} (h : d ≤ 5) : sfW wet (d - 1) = sfW wet d + wet d := by
  unfold sfW
  rw [show 5 - (d - 1) = (5 - d) + 1 by omega, smI_S (by omega)]
  show _ + wet (5 - (5 - d)) = _
  rw [show 5 - (5 - d) = d by omega]
section PB
variable {pl n ec mk mt : Int} {Fo Ho Lt F2 H2 L2 T Kd Dr wet B0 Bh : Int → Int}
def bhW (pl mt : Int) (Kd Dr wet B0 Bh : Int → Int) : Prop := ∀ x d, 0 ≤ x → x < pl → -1 ≤ d → d ≤ 5 → Bh (x * 7 + d + 1) = drF (Kd x) (Dr x) (5 - d) (sfW wet d) (if d = -1 then B0 x else mt)
theorem sfW_ge (hw : ∀ x, 0 ≤ x → x < 6 → 0 ≤ wet x ∧ wet x ≤ 9) : ∀ k, 0 ≤ k → k ≤ 6 → 0 ≤ sfW wet (5 - k) := by
  refine upI (fun _ => Int.le_refl 0) (fun k hk ih h => ?_)
  have h1 := ih (by omega)
  have h2 := hw (5 - k) (by omega) (by omega)
  rw [show 5 - (k + 1) = 5 - k - 1 by omega, sfW_S (by omega)]
  omega
theorem pas_bhf (hod : okDy pl mt Kd Dr) (hw : ∀ x, 0 ≤ x → x < 6 → 0 ≤ wet x ∧ wet x ≤ 9) (hb : bhW pl mt Kd Dr wet B0 Bh) : ∀ (zs : List Int) (i : Int) (B : Int → Int), 0 ≤ i → i + (zs.length : Int) = 6 → (∀ p, 0 ≤ p → p < pl → 1 ≤ B p ∧ B p ≤ 199) → ∀ p, 0 ≤ p → p < pl → pasL Kd Dr mt pl wet i zs B p = if p ∈ zs then bhf Bh zs p else drF (Kd p) (Dr p) (zs.length : Int) (sfW wet (i - 1)) (B p) := by
  intro zs
  induction zs with
  | nil =>
    intro i B h0 hi hB p p0 p1
    have e : i = 6 := by have h2 : i + 0 = 6 := hi; omega
    rw [if_neg List.not_mem_nil, e]
    show B p = drF (Kd p) (Dr p) 0 (sfW wet (6 - 1)) (B p)
    rw [show (6 : Int) - 1 = 5 by omega, sfW_5, drW_00 (hB p p0 p1)]
  | cons a r ih =>
    intro i B h0 hi hB p p0 p1
    rw [List.length_cons] at hi
    have hge := sfW_ge hw (5 - i) (by omega) (by omega)
    rw [show 5 - (5 - i) = i by omega] at hge
    have hwi := hw i h0 (by omega)
    have h9 := ih (i + 1) (paF Kd Dr mt a (wet i) pl B) (by omega) (by omega) (fun q q0 q1 => paF_in ⟨hod.1, hod.2.1⟩ q0 q1) p p0 p1
    show pasL Kd Dr mt pl wet (i + 1) r (paF Kd Dr mt a (wet i) pl B) p = _
    rw [h9, show i + 1 - 1 = i by omega]
    by_cases c : p ∈ r
    · rw [if_pos c, if_pos (List.mem_cons_of_mem _ c)]
      by_cases e : p = a
      · rw [bhf_mem (by rw [← e]; exact c)]
      · rw [bhf_ne e]
    · rw [if_neg c]
      by_cases e : p = a
      · rw [← e, if_pos List.mem_cons_self, bhf_at c, hb p _ p0 p1 (by omega) (by omega), if_neg (by omega), show 5 - (5 - (r.length : Int)) = (r.length : Int) by omega, show 5 - (r.length : Int) = i by omega]
        congr 1
        unfold paF
        rw [if_pos ⟨p0, p1⟩, if_pos rfl]
      · have e2 : p ∉ a :: r := fun q => (List.mem_cons.mp q).elim e c
        rw [if_neg e2, sfW_S (d := i) (by omega), List.length_cons]
        have e3 : paF Kd Dr mt a (wet i) pl B p = drF (Kd p) (Dr p) 1 (wet i) (B p) := by
          unfold paF
          rw [if_pos ⟨p0, p1⟩, if_neg e]
        rw [e3, drW_comp (hod.2.2 p p0 p1).1 (hod.2.2 p p0 p1).2 (by omega) hge hwi.1 (hB p p0 p1)]
        rfl
/-- both walks find the same -/
theorem wk_eq (hs : okS pl n ec Fo Ho B0 Lt) (hod : okDy pl mt Kd Dr) (hw : ∀ x, 0 ≤ x → x < 6 → 0 ≤ wet x ∧ wet x ≤ 9) (hb : bhW pl mt Kd Dr wet B0 Bh) (he : ∀ p, 0 ≤ p → p < pl → Fo p = F2 p ∧ Ho p = H2 p ∧ Lt p = L2 p) (hT : ∀ p, 0 ≤ p → p < pl → T p = Bh (p * 7 + (-1) + 1)) (l9 : Int) : cwN pl n ec mk F2 H2 L2 Bh 6 5 0 0 1 T (1000000000, 1000000000) = wkN pl n ec mk mt Fo Ho Lt Kd Dr wet 6 0 0 B0 (-1, l9) := by
  have hp := hs.1
  have hB0 : ∀ p, 0 ≤ p → p < pl → 1 ≤ B0 p ∧ B0 p ≤ 199 := fun p h0 h1 => (hs.2.2.2.2.2.2 p h0 h1).2.2.1
  have hBr : ∀ x d, 0 ≤ x → x < pl → -1 ≤ d → d ≤ 5 → 1 ≤ Bh (x * 7 + d + 1) ∧ Bh (x * 7 + d + 1) ≤ 199 := fun x d h0 h1 h2 h3 => by rw [hb x d h0 h1 h2 h3]; exact drF_in _ _ _ _ _
  have hs2 : okS pl n ec F2 H2 B0 L2 := hs.c (fun p h0 h1 => ⟨(he p h0 h1).1, (he p h0 h1).2.1, rfl, (he p h0 h1).2.2⟩)
  have hz : ∀ j : Int, 0 ≤ j → j < 6 → zAnd 0 (zShl 1 j) = 0 := fun j j0 j1 => by
    unfold zAnd
    rw [show i32 0 = (0 : Int32) from rfl, Int32.zero_and]
    rfl
  have A := cw_LX (mk := mk) hs2 hBr 6 [] 0 5 0 1 T (1000000000, 1000000000) (fun _ => False) rfl rfl rfl rfl ⟨Int.le_refl 0, by decide⟩ (fun j j0 j1 => ⟨fun _ => List.not_mem_nil, fun _ => hz j j0 j1⟩) hT trivial (Or.inl ⟨rfl, fun x h => h⟩)
  have C := wk_LR (mk := mk) (n := n) (ec := ec) (mt := mt) (Fo := Fo) (Ho := Ho) (Lt := Lt) (Kd := Kd) (Dr := Dr) (wet := wet) (B0 := B0) ⟨by omega, hs.2.1⟩ 6 [] 0 0 B0 (-1, l9) (fun _ => False) rfl rfl (Int.le_refl 0) rfl (Or.inl ⟨rfl, fun x h => h⟩) (fun x x2 h => h.elim)
  have eW : ∀ x : List Int, x.length = 6 → WO pl n ec mk Fo Ho (pasL Kd Dr mt pl wet 0 x B0) Lt = WO pl n ec mk F2 H2 (bhf Bh x) L2 := fun x hl => by
    have eb : ∀ p, 0 ≤ p → p < pl → pasL Kd Dr mt pl wet 0 x B0 p = bhf Bh x p := fun p p0 p1 => by
      rw [pas_bhf hod hw hb x 0 B0 (Int.le_refl 0) (by omega) hB0 p p0 p1]
      by_cases c : p ∈ x
      · rw [if_pos c]
      · rw [if_neg c, bhf_out x p c, hb p (-1) p0 p1 (by omega) (by omega), if_pos rfl, hl]
        rfl
    refine (WO_c (hs2.b2 (bhf_in hBr x (by omega))) (fun p p0 p1 => ⟨(he p p0 p1).1.symm, (he p p0 p1).2.1.symm, (eb p p0 p1).symm, (he p p0 p1).2.2.symm⟩)).symm
  have z6 : RxW pl 6 [] [0, 0, 0, 0, 0, 0] := ⟨[0, 0, 0, 0, 0, 0], rfl, rfl, fun a ha => by
    have : a = 0 := by simpa using ha
    omega⟩
  rcases C with ⟨_, C⟩ | ⟨_, ⟨x, x1, x2⟩, x3⟩
  · exact absurd (Or.inr z6) (C _)
  · have hx : RxW pl 6 [] x := x1.elim (fun h => h.elim) id
    obtain ⟨zx, ex, lx, hzx⟩ := hx
    rw [List.nil_append] at ex
    rw [← ex] at lx hzx
    obtain ⟨y, y1, y2, y3, y4, y5⟩ := domW (Bh := Bh) x hzx
    have hy : ExW pl 6 [] y := ⟨y1, y, (List.append_nil y).symm, by omega⟩
    rcases A with ⟨_, A⟩ | ⟨⟨u, u1, u2⟩, u3⟩
    · exact absurd (Or.inr hy) (A _)
    · have hu : ExW pl 6 [] u := u1.elim (fun h => h.elim) id
      obtain ⟨hu1, zu, eu, lu⟩ := hu
      rw [List.append_nil] at eu
      rw [← eu] at lu
      have hru : RxW pl 6 [] u := ⟨u, rfl, lu, okE_rng u hu1⟩
      have k1 := u3 y (Or.inr hy)
      have k2 := x3 u (Or.inr hru)
      have w1 := eW x lx
      have w2 := eW u lu
      have w3 : WO pl n ec mk F2 H2 (bhf Bh y) L2 = WO pl n ec mk F2 H2 (bhf Bh x) L2 := by rw [show bhf Bh y = bhf Bh x from funext y4]
      dsimp only at k1 k2 x2 u2
      rw [w2] at k2
      rw [w3] at k1
      rw [w1] at x2
      rw [x2] at k2 ⊢
      rw [u2] at k1 ⊢
      dsimp only at k1 k2
      have e1 : dgl u = dgl x := by omega
      have e2 : WO pl n ec mk F2 H2 (bhf Bh u) L2 = WO pl n ec mk F2 H2 (bhf Bh x) L2 := by omega
      rw [e1, e2]
/-- .. and hangs on PLAYERS' numbers alone -/
theorem wkN_c {F3 H3 L3 K3 D3 w3 : Int → Int} (hod : okDy pl mt Kd Dr) (eK : ∀ p, 0 ≤ p → p < pl → Kd p = K3 p ∧ Dr p = D3 p) (ew : ∀ x, 0 ≤ x → x < 6 → wet x = w3 x) : ∀ (K : Nat) (i dg : Int) (B B2 : Int → Int) (r : Int × Int), 0 ≤ i → i + K = 6 → okS pl n ec Fo Ho B Lt → (∀ p, 0 ≤ p → p < pl → Fo p = F3 p ∧ Ho p = H3 p ∧ B p = B2 p ∧ Lt p = L3 p) → wkN pl n ec mk mt Fo Ho Lt Kd Dr wet K i dg B r = wkN pl n ec mk mt F3 H3 L3 K3 D3 w3 K i dg B2 r := by
  intro K
  induction K with
  | zero =>
    intro i dg B B2 r h0 h1 hs e
    rw [wkN, wkN, WO_c hs e]
  | succ K ih =>
    intro i dg B B2 r h0 h1 hs e
    have hp := hs.1
    rw [wkN, wkN, ← ew i h0 (by omega)]
    refine foldI_c pl (by omega) (fun a a0 a1 q => ih (i + 1) (10 * dg + a) _ _ q (by omega) (by omega) (hs.pa hod) (fun p p0 p1 => ⟨(e p p0 p1).1, (e p p0 p1).2.1, ?_, (e p p0 p1).2.2.2⟩))
    unfold paF
    rw [(e p p0 p1).2.2.1, (eK p p0 p1).1, (eK p p0 p1).2]
end PB
def C_X11_rowsWithSum (l : Launch) (K : Nat) (d : Nat) : Prop := ∀ (cn : Int) (su : Int), (cn = (K : Int) ∧ K ≤ 6) → (-100 ≤ su ∧ su ≤ 100) → AMi l yX11_rowsWithSum cX11_rowsWithSum 2 .int d 0 0 [iv cn, iv su] [] (fun z u => z = rwN K su ∧ u = [])
set_option maxHeartbeats 4000000 in
set_option maxRecDepth 100000 in
theorem kX11_rowsWithSum (l : Launch) (K : Nat) (d : Nat) (hnx : ∀ K2 : Nat, K = K2 + 1 → C_X11_rowsWithSum l K2 d) : C_X11_rowsWithSum l K (d + 1) := by
  intro cn su hcn hsu
  refine AMi.of2 rfl (nle rfl) ?_
  intro D G A p e s m args below meth c Po hPo X
  refine S_iload_n X dX11_rowsWithSum_0 rfl rfl ?_
  refine S_if_lt (tgt := 11) X dX11_rowsWithSum_1 (by decide) (by omega) (fun c_1 => ?_) (fun c_1 => ?_)
  ·
    refine S_iconst X dX11_rowsWithSum_11 ?_
    exact S_iret X (nle rfl) (nle rfl) dX11_rowsWithSum_12 (hPo _ _ (⟨by cases K with | zero => rw [rwN]; rw [if_pos (by omega)] | succ K2 => rw [rwN]; rw [if_pos (by omega)], rfl⟩))
  ·
    refine S_iload_n X dX11_rowsWithSum_4 rfl rfl ?_
    refine S_iconst X dX11_rowsWithSum_5 ?_
    refine S_iload_n X dX11_rowsWithSum_6 rfl rfl ?_
    refine S_imul X dX11_rowsWithSum_7 ?_
    refine S_icmp_le (tgt := 13) X dX11_rowsWithSum_8 (by decide) (by omega) (by omega) (fun c_2 => ?_) (fun c_2 => ?_)
    ·
      refine S_iload_n X dX11_rowsWithSum_13 rfl rfl ?_
      refine S_if_gt (tgt := 19) X dX11_rowsWithSum_14 (by decide) (by omega) (fun c_3 => ?_) (fun c_3 => ?_)
      ·
        obtain ⟨K2, hK2⟩ : ∃ K2, K = K2 + 1 := ⟨K - 1, by omega⟩
        have hp9 := p3_in K2
        have hr1 := rw_in K2 (by omega) su
        have hr2 := rw_in K2 (by omega) (su - 1)
        have hr3 := rw_in K2 (by omega) (su - 2)
        refine S_iload_n X dX11_rowsWithSum_19 rfl rfl ?_
        refine S_iconst X dX11_rowsWithSum_20 ?_
        refine S_isub X dX11_rowsWithSum_21 ?_
        refine S_iload_n X dX11_rowsWithSum_22 rfl rfl ?_
        refine S_calli X ((hnx K2 hK2) (cn - 1) su (by omega) (by omega)) (is := []) rfl (run_S X lkX11_332 (is := []) (avs := [iv (cn - 1), iv su]) (rest := []) rfl rfl (nle rfl) ⟨by simp only [rmD]; omega, by simp only [rmD]; omega⟩ ⟨nle rfl, nle rfl⟩ dX11_rowsWithSum_23 (by decide) rfl) (fun z_6 u_4 hp_5 => ?_)
        obtain ⟨hz_7, hu_8⟩ := hp_5
        subst hz_7
        subst hu_8
        refine ⟨rfl, ?_⟩
        refine S_w (ws' := []) rfl ?_
        refine S_iload_n X dX11_rowsWithSum_26 rfl rfl ?_
        refine S_iconst X dX11_rowsWithSum_27 ?_
        refine S_isub X dX11_rowsWithSum_28 ?_
        refine S_iload_n X dX11_rowsWithSum_29 rfl rfl ?_
        refine S_iconst X dX11_rowsWithSum_30 ?_
        refine S_isub X dX11_rowsWithSum_31 ?_
        refine S_calli X ((hnx K2 hK2) (cn - 1) (su - 1) (by omega) (by omega)) (is := []) rfl (run_S X lkX11_332 (is := []) (avs := [iv (cn - 1), iv (su - 1)]) (rest := [iv (rwN K2 su)]) rfl rfl (nle rfl) ⟨by simp only [rmD]; omega, by simp only [rmD]; omega⟩ ⟨nle rfl, nle rfl⟩ dX11_rowsWithSum_32 (by decide) rfl) (fun z_11 u_9 hp_10 => ?_)
        obtain ⟨hz_12, hu_13⟩ := hp_10
        subst hz_12
        subst hu_13
        refine ⟨rfl, ?_⟩
        refine S_w (ws' := []) rfl ?_
        refine S_iadd X dX11_rowsWithSum_35 ?_
        refine S_iload_n X dX11_rowsWithSum_36 rfl rfl ?_
        refine S_iconst X dX11_rowsWithSum_37 ?_
        refine S_isub X dX11_rowsWithSum_38 ?_
        refine S_iload_n X dX11_rowsWithSum_39 rfl rfl ?_
        refine S_iconst X dX11_rowsWithSum_40 ?_
        refine S_isub X dX11_rowsWithSum_41 ?_
        refine S_calli X ((hnx K2 hK2) (cn - 1) (su - 2) (by omega) (by omega)) (is := []) rfl (run_S X lkX11_332 (is := []) (avs := [iv (cn - 1), iv (su - 2)]) (rest := [iv ((rwN K2 su) + (rwN K2 (su - 1)))]) rfl rfl (nle rfl) ⟨by simp only [rmD]; omega, by simp only [rmD]; omega⟩ ⟨nle rfl, nle rfl⟩ dX11_rowsWithSum_42 (by decide) rfl) (fun z_16 u_14 hp_15 => ?_)
        obtain ⟨hz_17, hu_18⟩ := hp_15
        subst hz_17
        subst hu_18
        refine ⟨rfl, ?_⟩
        refine S_w (ws' := []) rfl ?_
        refine S_iadd X dX11_rowsWithSum_45 ?_
        exact S_iret X (nle rfl) (nle rfl) dX11_rowsWithSum_46 (hPo _ _ (⟨by rw [hK2, rwN, if_neg (by omega)], rfl⟩))
      ·
        refine S_iconst X dX11_rowsWithSum_17 ?_
        exact S_iret X (nle rfl) (nle rfl) dX11_rowsWithSum_18 (hPo _ _ (⟨by rw [show K = 0 by omega, rwN, if_neg (by omega)], rfl⟩))
    ·
      refine S_iconst X dX11_rowsWithSum_11 ?_
      exact S_iret X (nle rfl) (nle rfl) dX11_rowsWithSum_12 (hPo _ _ (⟨by cases K with | zero => rw [rwN]; rw [if_pos (by omega)] | succ K2 => rw [rwN]; rw [if_pos (by omega)], rfl⟩))
theorem rws_all (l : Launch) : ∀ K d : Nat, K ≤ d → C_X11_rowsWithSum l K (d + 1) := by
  intro K
  induction K with
  | zero => intro d _; exact kX11_rowsWithSum l 0 d (fun K2 h => by omega)
  | succ K ih =>
    intro d h
    refine kX11_rowsWithSum l (K + 1) d (fun K2 h2 => ?_)
    cases h2
    have := ih (d - 1) (by omega)
    rwa [show d - 1 + 1 = d by omega] at this
set_option maxHeartbeats 4000000 in
set_option maxRecDepth 100000 in
theorem kX11_odds (l : Launch) (h0 : Nat) (f : Nat → AV) (oW : Nat) (fW : Nat → AV) (fP : Nat → AV) (fS : Nat → AV) (pl : Int) (n : Int) (ec : Int) (mk : Int) (oP : Nat) (oS : Nat) (aA : Nat) (aT : Nat) (aW : Nat) (aS : Nat) (aB : Nat) (aF : Nat) (aH : Nat) (aL : Nat) (Ab : Int → Int) (Tm : Int → Int) (Wq : Int → Int) (Sp : Int → Int) (B : Int → Int) (Fo : Int → Int) (Ho : Int → Int) (Lt : Int → Int) (p0 : Int) (n0 : Int) (k0 : Int) (q : Int) (k9 : Int) (oT : Nat) (tB : Nat) (tF : Nat) (tH : Nat) (tL : Nat) (fT : Nat → AV) (TB : Int → Int) (TF : Int → Int) (TH : Int → Int) (TL : Int → Int) (t0 : Int) (t1 : Int) (t2 : Int) (t3 : Int) (wD : Nat) (wK : Nat) (WD : Int → Int) (WK : Int → Int) (mt : Int) (hf0 : f 3 = rv oW) (hf1 : f 7 = rv oS) (hf2 : f 9 = rv oP) (hf3 : f 8 = rv oT) (hf4 : fW 0 = iv pl) (hf5 : fP 0 = rv aA) (hf6 : fP 1 = rv aT) (hf7 : fP 2 = rv aW) (hf8 : fP 3 = rv aS) (hf9 : fS 0 = iv pl) (hf10 : fS 1 = iv n) (hf11 : fS 2 = iv ec) (hf12 : fS 3 = iv mk) (hf13 : fS 4 = rv aB) (hf14 : fS 5 = rv aF) (hf15 : fS 6 = rv aH) (hf16 : fS 7 = rv aL) (hf17 : fT 4 = rv tB) (hf18 : fT 5 = rv tF) (hf19 : fT 6 = rv tH) (hf20 : fT 7 = rv tL) (hf21 : fW 3 = rv wD) (hf22 : fW 4 = rv wK) (hz : okZ pl n ec Fo Ho B Lt) (hx_q : inR q) (hx_k9 : inR k9) (hod0 : 1 ≤ pl → okDy pl mt WK WD) : AMi l yX11_odds cX11_odds 6 .int 8 0 0 [rv h0, iv q, iv k9] [(h0, ob 10 f), (oW, ob 7 fW), (oP, ob 4 (uF (uF (uF fP 6 (iv p0)) 7 (iv n0)) 8 (iv k0))), (aA, ar 1206 Ab), (aT, ar 180 Tm), (aW, ar 6 Wq), (aS, ar 30 Sp), (oS, ob 5 fS), (aB, ar 6 B), (aF, ar 6 Fo), (aH, ar 6 Ho), (aL, ar 6 Lt), (oT, ob 5 (uF (uF (uF (uF fT 0 (iv t0)) 1 (iv t1)) 2 (iv t2)) 3 (iv t3))), (tB, ar 6 TB), (tF, ar 6 TF), (tH, ar 6 TH), (tL, ar 6 TL), (wD, ar 6 WD), (wK, ar 6 WK)] (fun z u => ∃ z9 : Int, ∃ p9 : Int, ∃ n9 : Int, ∃ k9 : Int, ∃ A2 : Int → Int, ∃ T2 : Int → Int, ∃ W2 : Int → Int, ∃ S2 : Int → Int, ∃ t4 : Int, ∃ t5 : Int, ∃ t6 : Int, ∃ t7 : Int, ∃ B3 : Int → Int, ∃ F3 : Int → Int, ∃ H3 : Int → Int, ∃ L3 : Int → Int, z = z9 ∧ u = [(h0, ob 10 f), (oW, ob 7 fW), (oP, ob 4 (uF (uF (uF fP 6 (iv p9)) 7 (iv n9)) 8 (iv k9))), (aA, ar 1206 A2), (aT, ar 180 T2), (aW, ar 6 W2), (aS, ar 30 S2), (oS, ob 5 fS), (aB, ar 6 B), (aF, ar 6 Fo), (aH, ar 6 Ho), (aL, ar 6 Lt), (oT, ob 5 (uF (uF (uF (uF fT 0 (iv t4)) 1 (iv t5)) 2 (iv t6)) 3 (iv t7))), (tB, ar 6 B3), (tF, ar 6 F3), (tH, ar 6 H3), (tL, ar 6 L3), (wD, ar 6 WD), (wK, ar 6 WK)]) := by
  refine AMi.of2 rfl (nle rfl) ?_
  intro D G A p e s m args below meth c Po hPo X
  have hz6 := hz.2.1
  have hz0 := hz.1
  have hzn := hz.2.2.1
  have hzm := hz.2.2.2.1
  have hze := hz.2.2.2.2
  refine S_aload_n X dX11_odds_0 rfl rfl ?_
  refine S_iload_n X dX11_odds_1 rfl rfl ?_
  refine S_calli X (kX11_isPlayer l h0 f oW fW pl q hf0 hf4 (by omega) (by omega)) (is := [0, 1]) rfl (run_V X lkX11_147 0 rfl rfl (is := [0, 1]) (avs := [iv q]) (rest := []) rfl rfl (nle rfl) ⟨nle rfl, nle rfl⟩ ⟨nle rfl, nle rfl⟩ dX11_odds_2 (by decide) rfl) (fun z_3 u_1 hp_2 => ?_)
  rcases hp_2 with ⟨hz_4, hu_5, hp_6⟩ | ⟨hz_7, hu_8, hp_9⟩
  ·
    subst hz_4
    subst hu_5
    refine ⟨rfl, ?_⟩
    refine S_w (ws' := [(h0, ob 10 f), (oW, ob 7 fW), (oP, ob 4 (uF (uF (uF fP 6 (iv p0)) 7 (iv n0)) 8 (iv k0))), (aA, ar 1206 Ab), (aT, ar 180 Tm), (aW, ar 6 Wq), (aS, ar 30 Sp), (oS, ob 5 fS), (aB, ar 6 B), (aF, ar 6 Fo), (aH, ar 6 Ho), (aL, ar 6 Lt), (oT, ob 5 (uF (uF (uF (uF fT 0 (iv t0)) 1 (iv t1)) 2 (iv t2)) 3 (iv t3))), (tB, ar 6 TB), (tF, ar 6 TF), (tH, ar 6 TH), (tL, ar 6 TL), (wD, ar 6 WD), (wK, ar 6 WK)]) rfl ?_
    refine S_if_eq (tgt := 19) X dX11_odds_5 (by decide) (by decide) (fun _ => ?_) (fun h9 => absurd h9 (by decide))
    refine S_iconst X dX11_odds_19 ?_
    exact S_iret X (nle rfl) (nle rfl) dX11_odds_20 (hPo _ _ (⟨_, _, _, _, _, _, _, _, _, _, _, _, _, _, _, _, rfl, rfl⟩))
  ·
    subst hz_7
    subst hu_8
    refine ⟨rfl, ?_⟩
    refine S_w (ws' := [(h0, ob 10 f), (oW, ob 7 fW), (oP, ob 4 (uF (uF (uF fP 6 (iv p0)) 7 (iv n0)) 8 (iv k0))), (aA, ar 1206 Ab), (aT, ar 180 Tm), (aW, ar 6 Wq), (aS, ar 30 Sp), (oS, ob 5 fS), (aB, ar 6 B), (aF, ar 6 Fo), (aH, ar 6 Ho), (aL, ar 6 Lt), (oT, ob 5 (uF (uF (uF (uF fT 0 (iv t0)) 1 (iv t1)) 2 (iv t2)) 3 (iv t3))), (tB, ar 6 TB), (tF, ar 6 TF), (tH, ar 6 TH), (tL, ar 6 TL), (wD, ar 6 WD), (wK, ar 6 WK)]) rfl ?_
    refine S_if_eq (tgt := 19) X dX11_odds_5 (by decide) (by decide) (fun h9 => absurd h9 (by decide)) (fun _ => ?_)
    refine S_iload_n X dX11_odds_8 rfl rfl ?_
    refine S_iconst X dX11_odds_9 ?_
    refine S_icmp_lt (tgt := 19) X dX11_odds_10 (by decide) (by omega) (by decide) (fun c_12 => ?_) (fun c_12 => ?_)
    ·
      refine S_iconst X dX11_odds_19 ?_
      exact S_iret X (nle rfl) (nle rfl) dX11_odds_20 (hPo _ _ (⟨_, _, _, _, _, _, _, _, _, _, _, _, _, _, _, _, rfl, rfl⟩))
    ·
      refine S_iload_n X dX11_odds_13 rfl rfl ?_
      refine S_bipush X dX11_odds_14 rfl ?_
      refine S_icmp_le (tgt := 21) X dX11_odds_16 (by decide) (by omega) (by decide) (fun c_13 => ?_) (fun c_13 => ?_)
      ·
        have hok := hz.s (by omega)
        have hpl := hok.2.1
        have hpl1 := hok.1
        have hn1 := hok.2.2.1
        have hn2 := hok.2.2.2.1
        have hec := hok.2.2.2.2
        have hod := hod0 (by omega)
        refine S_aload_n X dX11_odds_21 rfl rfl ?_
        refine S_get X fgX11_63_10 0 rfl hf3 dX11_odds_22 ?_
        refine S_aload_n X dX11_odds_25 rfl rfl ?_
        refine S_get X fgX11_59_10 0 rfl hf1 dX11_odds_26 ?_
        refine S_callv X (kX6_copyFrom l fS pl n ec mk oS aB aF aH aL B Fo Ho Lt oT tB tF tH tL fT TB TF TH TL t0 t1 t2 t3 hf9 hf10 hf11 hf12 hf13 hf14 hf15 hf16 hf17 hf18 hf19 hf20) (is := [12, 13, 14, 15, 16, 7, 8, 9, 10, 11]) rfl (run_V X lkX11_289 12 rfl rfl (is := [12, 13, 14, 15, 16, 7, 8, 9, 10, 11]) (avs := [rv oS]) (rest := []) rfl rfl (nle rfl) ⟨nle rfl, nle rfl⟩ ⟨nle rfl, nle rfl⟩ dX11_odds_29 (by decide) rfl) (fun u_14 hp_15 => ?_)
        obtain ⟨B2_17, F2_18, H2_19, L2_20, hu_22, hB2_23, hF2_24, hH2_25, hL2_26⟩ := hp_15
        subst hu_22
        refine ⟨rfl, ?_⟩
        refine S_w (ws' := [(h0, ob 10 f), (oW, ob 7 fW), (oP, ob 4 (uF (uF (uF fP 6 (iv p0)) 7 (iv n0)) 8 (iv k0))), (aA, ar 1206 Ab), (aT, ar 180 Tm), (aW, ar 6 Wq), (aS, ar 30 Sp), (oS, ob 5 fS), (aB, ar 6 B), (aF, ar 6 Fo), (aH, ar 6 Ho), (aL, ar 6 Lt), (oT, ob 5 (uF (uF (uF (uF fT 0 (iv pl)) 1 (iv n)) 2 (iv ec)) 3 (iv mk))), (tB, ar 6 B2_17), (tF, ar 6 F2_18), (tH, ar 6 H2_19), (tL, ar 6 L2_20), (wD, ar 6 WD), (wK, ar 6 WK)]) rfl ?_
        have hB9 := hB2_23
        have hF9 := hF2_24
        have hH9 := hH2_25
        have hL9 := hL2_26
        have hte := te_0 (pl := pl) (by omega) hB9 hF9 hH9 hL9
        refine S_iconst X dX11_odds_32 ?_
        refine S_istore_n X dX11_odds_33 rfl (nle rfl) ?_
        refine S_iconst X dX11_odds_34 ?_
        refine S_istore X dX11_odds_35 (nle rfl) ?_
        have lp37_3 : ∀ (N : Nat) (su : Int) (st : Int) (Bz : Int → Int) (Aw : Int → Int) (Tw : Int → Int) (Ww : Int → Int) (Sw : Int → Int) (pw : Int) (nw : Int) (kw : Int) (L : Nat → Option AV), 0 ≤ su ∧ su ≤ 13 → 0 ≤ st ∧ st ≤ 729 * su → L 0 = some (rv h0) → L 1 = some (iv q) → L 2 = some (iv k9) → L 3 = some (iv st) → L 4 = some (iv su) → 14 - su < (N : Int) → S_ p l e (rmD 8 0 0) s m args below meth c (MQ below (QcI D G A Po) args s 0 0 A) D G A 6 0 0 37 L [] [(h0, ob 10 f), (oW, ob 7 fW), (oP, ob 4 (uF (uF (uF fP 6 (iv pw)) 7 (iv nw)) 8 (iv kw))), (aA, ar 1206 Aw), (aT, ar 180 Tw), (aW, ar 6 Ww), (aS, ar 30 Sw), (oS, ob 5 fS), (aB, ar 6 B), (aF, ar 6 Fo), (aH, ar 6 Ho), (aL, ar 6 Lt), (oT, ob 5 (uF (uF (uF (uF fT 0 (iv pl)) 1 (iv n)) 2 (iv ec)) 3 (iv mk))), (tB, ar 6 Bz), (tF, ar 6 F2_18), (tH, ar 6 H2_19), (tL, ar 6 L2_20), (wD, ar 6 WD), (wK, ar 6 WK)] := by
          intro N
          induction N with
          | zero =>
            intro su st Bz Aw Tw Ww Sw pw nw kw L37 hsu hst hL37_0 hL37_1 hL37_2 hL37_3 hL37_4 hN37
            exfalso; omega
          | succ N ih37 =>
            intro su st Bz Aw Tw Ww Sw pw nw kw L37 hsu hst hL37_0 hL37_1 hL37_2 hL37_3 hL37_4 hN37
            refine S_iload X dX11_odds_37 hL37_4 ?_
            refine S_iconst X dX11_odds_39 ?_
            refine S_iload_n X dX11_odds_40 rfl hL37_2 ?_
            refine S_imul X dX11_odds_41 ?_
            refine S_icmp_gt (tgt := 147) X dX11_odds_42 (by decide) (by omega) (by omega) (fun c_27 => ?_) (fun c_27 => ?_)
            ·
              refine S_iload_n X dX11_odds_147 rfl hL37_3 ?_
              exact S_iret X (nle rfl) (nle rfl) dX11_odds_148 (hPo _ _ (⟨_, _, _, _, _, _, _, _, _, _, _, _, _, _, _, _, rfl, rfl⟩))
            ·
              refine S_iconst X dX11_odds_45 ?_
              refine S_istore X dX11_odds_46 (nle rfl) ?_
              have lp48_6 : ∀ (N : Nat) (i : Int) (Bv : Int → Int) (L : Nat → Option AV), 0 ≤ i ∧ i ≤ pl → (∀ x, 0 ≤ x → x < i → 1 ≤ Bv x ∧ Bv x ≤ 199) → L 0 = some (rv h0) → L 1 = some (iv q) → L 2 = some (iv k9) → L 3 = some (iv st) → L 4 = some (iv su) → L 5 = some (iv i) → pl + 1 - i < (N : Int) → S_ p l e (rmD 8 0 0) s m args below meth c (MQ below (QcI D G A Po) args s 0 0 A) D G A 6 0 0 48 L [] [(h0, ob 10 f), (oW, ob 7 fW), (oP, ob 4 (uF (uF (uF fP 6 (iv pw)) 7 (iv nw)) 8 (iv kw))), (aA, ar 1206 Aw), (aT, ar 180 Tw), (aW, ar 6 Ww), (aS, ar 30 Sw), (oS, ob 5 fS), (aB, ar 6 B), (aF, ar 6 Fo), (aH, ar 6 Ho), (aL, ar 6 Lt), (oT, ob 5 (uF (uF (uF (uF fT 0 (iv pl)) 1 (iv n)) 2 (iv ec)) 3 (iv mk))), (tB, ar 6 Bv), (tF, ar 6 F2_18), (tH, ar 6 H2_19), (tL, ar 6 L2_20), (wD, ar 6 WD), (wK, ar 6 WK)] := by
                intro N
                induction N with
                | zero =>
                  intro i Bv L48 hi hBv hL48_0 hL48_1 hL48_2 hL48_3 hL48_4 hL48_5 hN48
                  exfalso; omega
                | succ N ih48 =>
                  intro i Bv L48 hi hBv hL48_0 hL48_1 hL48_2 hL48_3 hL48_4 hL48_5 hN48
                  refine S_iload X dX11_odds_48 hL48_5 ?_
                  refine S_aload_n X dX11_odds_50 rfl hL48_0 ?_
                  refine S_get X fgX11_35_10 0 rfl hf0 dX11_odds_51 ?_
                  refine S_get X fgX11_115_7 1 rfl hf4 dX11_odds_54 ?_
                  refine S_icmp_ge (tgt := 98) X dX11_odds_57 (by decide) (by omega) (by omega) (fun c_28 => ?_) (fun c_28 => ?_)
                  ·
                    refine S_aload_n X dX11_odds_98 rfl hL48_0 ?_
                    refine S_get X fgX11_69_10 0 rfl hf2 dX11_odds_99 ?_
                    refine S_aload_n X dX11_odds_102 rfl hL48_0 ?_
                    refine S_get X fgX11_63_10 0 rfl hf3 dX11_odds_103 ?_
                    refine S_ldc (n := 1000000000) X m813 dX11_odds_106 ?_
                    refine S_calli X (kX4_performE l fP (uF (uF (uF (uF fT 0 (iv pl)) 1 (iv n)) 2 (iv ec)) 3 (iv mk)) pl n ec mk oP oT aA aT aW aS tB tF tH tL Aw Tw Ww Sw Bv F2_18 H2_19 L2_20 pw nw kw hf5 hf6 hf7 hf8 rfl rfl rfl rfl hf17 hf18 hf19 hf20 (hok.bt hte (fun x h0 h1 => hBv x h0 (by omega)))) (is := [2, 3, 4, 5, 6, 12, 13, 14, 15, 16]) rfl (run_V X lkX11_235 2 rfl rfl (is := [2, 3, 4, 5, 6, 12, 13, 14, 15, 16]) (avs := [rv oT, iv 1000000000]) (rest := []) rfl rfl (nle rfl) ⟨nle rfl, nle rfl⟩ ⟨nle rfl, nle rfl⟩ dX11_odds_108 (by decide) rfl) (fun z_31 u_29 hp_30 => ?_)
                    obtain ⟨A2_32, T2_33, W2_34, S2_35, hz_36, hu_37, hq_38, hA2_39, hT2_40, hS2_41⟩ := hp_30
                    subst hz_36
                    subst hu_37
                    refine ⟨rfl, ?_⟩
                    refine S_w (ws' := [(h0, ob 10 f), (oW, ob 7 fW), (oP, ob 4 (uF (uF (uF fP 6 (iv pl)) 7 (iv n)) 8 (iv mk))), (aA, ar 1206 A2_32), (aT, ar 180 T2_33), (aW, ar 6 W2_34), (aS, ar 30 S2_35), (oS, ob 5 fS), (aB, ar 6 B), (aF, ar 6 Fo), (aH, ar 6 Ho), (aL, ar 6 Lt), (oT, ob 5 (uF (uF (uF (uF fT 0 (iv pl)) 1 (iv n)) 2 (iv ec)) 3 (iv mk))), (tB, ar 6 Bv), (tF, ar 6 F2_18), (tH, ar 6 H2_19), (tL, ar 6 L2_20), (wD, ar 6 WD), (wK, ar 6 WK)]) rfl ?_
                    have hTL := hT2_40
                    refine S_pop X dX11_odds_111 ?_
                    refine S_aload_n X dX11_odds_112 rfl hL48_0 ?_
                    refine S_get X fgX11_69_10 0 rfl hf2 dX11_odds_113 ?_
                    refine S_aload_n X dX11_odds_116 rfl hL48_0 ?_
                    refine S_get X fgX11_63_10 0 rfl hf3 dX11_odds_117 ?_
                    refine S_get (v := iv n) X fgX11_182_5 12 rfl rfl dX11_odds_120 ?_
                    refine S_iconst X dX11_odds_123 ?_
                    refine S_isub X dX11_odds_124 ?_
                    refine S_calli X (kX4_lastIn l (uF (uF (uF fP 6 (iv pl)) 7 (iv n)) 8 (iv mk)) pl n ec mk oP aT T2_33 Bv F2_18 H2_19 L2_20 (n - 1) hf6 rfl (hok.bt hte (fun x h0 h1 => hBv x h0 (by omega))) hTL (by omega)) (is := [2, 4]) rfl (run_V X lkX11_258 2 rfl rfl (is := [2, 4]) (avs := [iv (n - 1)]) (rest := []) rfl rfl (nle rfl) ⟨nle rfl, nle rfl⟩ ⟨nle rfl, nle rfl⟩ dX11_odds_125 (by decide) rfl) (fun z_44 u_42 hp_43 => ?_)
                    obtain ⟨hz_45, hu_46⟩ := hp_43
                    subst hz_45
                    subst hu_46
                    refine ⟨rfl, ?_⟩
                    refine S_w (ws' := [(h0, ob 10 f), (oW, ob 7 fW), (oP, ob 4 (uF (uF (uF fP 6 (iv pl)) 7 (iv n)) 8 (iv mk))), (aA, ar 1206 A2_32), (aT, ar 180 T2_33), (aW, ar 6 W2_34), (aS, ar 30 S2_35), (oS, ob 5 fS), (aB, ar 6 B), (aF, ar 6 Fo), (aH, ar 6 Ho), (aL, ar 6 Lt), (oT, ob 5 (uF (uF (uF (uF fT 0 (iv pl)) 1 (iv n)) 2 (iv ec)) 3 (iv mk))), (tB, ar 6 Bv), (tF, ar 6 F2_18), (tH, ar 6 H2_19), (tL, ar 6 L2_20), (wD, ar 6 WD), (wK, ar 6 WK)]) rfl ?_
                    have hrb := rw_in k9.toNat (by omega) su
                    have hr3 := p3_in k9.toNat
                    have hal9 := amI_lt (g := tS pl ec mk F2_18 H2_19 Bv L2_20 (n - 1)) (p := pl) (by omega)
                    refine S_iload_n X dX11_odds_128 rfl hL48_1 ?_
                    refine S_icmp_ne (tgt := 141) X dX11_odds_129 (by decide) (by omega) (by omega) (fun c_47 => ?_) (fun c_47 => ?_)
                    ·
                      refine S_iinc X dX11_odds_141 (nle rfl) hL48_4 ?_
                      refine S_goto (tgt := 37) X dX11_odds_144 (by decide) ?_
                      exact ih37 (su + 1) st Bv A2_32 T2_33 W2_34 S2_35 pl n mk _ (by omega) (by omega) hL48_0 hL48_1 hL48_2 hL48_3 rfl (by omega)
                    ·
                      refine S_iload_n X dX11_odds_132 rfl hL48_3 ?_
                      refine S_iload_n X dX11_odds_133 rfl hL48_2 ?_
                      refine S_iload X dX11_odds_134 hL48_4 ?_
                      refine S_calli X ((rws_all l k9.toNat 6 (by omega)) k9 su (by omega) (by omega)) (is := []) rfl (run_S X lkX11_332 (is := []) (avs := [iv k9, iv su]) (rest := [iv st]) rfl rfl (nle rfl) ⟨nle rfl, nle rfl⟩ ⟨nle rfl, nle rfl⟩ dX11_odds_136 (by decide) rfl) (fun z_50 u_48 hp_49 => ?_)
                      obtain ⟨hz_51, hu_52⟩ := hp_49
                      subst hz_51
                      subst hu_52
                      refine ⟨rfl, ?_⟩
                      refine S_w (ws' := [(h0, ob 10 f), (oW, ob 7 fW), (oP, ob 4 (uF (uF (uF fP 6 (iv pl)) 7 (iv n)) 8 (iv mk))), (aA, ar 1206 A2_32), (aT, ar 180 T2_33), (aW, ar 6 W2_34), (aS, ar 30 S2_35), (oS, ob 5 fS), (aB, ar 6 B), (aF, ar 6 Fo), (aH, ar 6 Ho), (aL, ar 6 Lt), (oT, ob 5 (uF (uF (uF (uF fT 0 (iv pl)) 1 (iv n)) 2 (iv ec)) 3 (iv mk))), (tB, ar 6 Bv), (tF, ar 6 F2_18), (tH, ar 6 H2_19), (tL, ar 6 L2_20), (wD, ar 6 WD), (wK, ar 6 WK)]) rfl ?_
                      refine S_iadd X dX11_odds_139 ?_
                      refine S_istore_n X dX11_odds_140 rfl (nle rfl) ?_
                      refine S_iinc X dX11_odds_141 (nle rfl) hL48_4 ?_
                      refine S_goto (tgt := 37) X dX11_odds_144 (by decide) ?_
                      exact ih37 (su + 1) (st + (rwN k9.toNat su)) Bv A2_32 T2_33 W2_34 S2_35 pl n mk _ (by omega) (by omega) hL48_0 hL48_1 hL48_2 rfl rfl (by omega)
                  ·
                    have hB1 := (hok.2.2.2.2.2.2 i (by omega) (by omega)).2.2.1
                    have hdr9 := drF_in (WK i) (WD i) k9 su (B i)
                    refine S_aload_n X dX11_odds_60 rfl hL48_0 ?_
                    refine S_get X fgX11_63_10 0 rfl hf3 dX11_odds_61 ?_
                    refine S_get X fgX11_158_5 12 rfl hf17 dX11_odds_64 ?_
                    refine S_iload X dX11_odds_67 hL48_5 ?_
                    refine S_aload_n X dX11_odds_69 rfl hL48_0 ?_
                    refine S_get X fgX11_35_10 0 rfl hf0 dX11_odds_70 ?_
                    refine S_iload X dX11_odds_73 hL48_5 ?_
                    refine S_aload_n X dX11_odds_75 rfl hL48_0 ?_
                    refine S_get X fgX11_59_10 0 rfl hf1 dX11_odds_76 ?_
                    refine S_get X fgX11_158_5 7 rfl hf13 dX11_odds_79 ?_
                    refine S_iload X dX11_odds_82 hL48_5 ?_
                    refine S_iald X 8 rfl (by omega) (by omega) (nle rfl) dX11_odds_84 ?_
                    refine S_iload_n X dX11_odds_85 rfl hL48_2 ?_
                    refine S_iload X dX11_odds_86 hL48_4 ?_
                    refine S_calli X (kX8_drifted l oW wD wK fW WD WK i (B i) k9 su hf21 hf22 (by omega) (hod.2.2 i (by omega) (by omega)).2 (hod.2.2 i (by omega) (by omega)).1 (by omega) (by omega) (by omega)) (is := [1, 17, 18]) rfl (run_V X lkX11_328 1 rfl rfl (is := [1, 17, 18]) (avs := [iv i, iv (B i), iv k9, iv su]) (rest := [iv i, rv tB]) rfl rfl (nle rfl) ⟨nle rfl, nle rfl⟩ ⟨nle rfl, nle rfl⟩ dX11_odds_88 (by decide) rfl) (fun z_55 u_53 hp_54 => ?_)
                    obtain ⟨hz_56, hu_57⟩ := hp_54
                    subst hz_56
                    subst hu_57
                    refine ⟨rfl, ?_⟩
                    refine S_w (ws' := [(h0, ob 10 f), (oW, ob 7 fW), (oP, ob 4 (uF (uF (uF fP 6 (iv pw)) 7 (iv nw)) 8 (iv kw))), (aA, ar 1206 Aw), (aT, ar 180 Tw), (aW, ar 6 Ww), (aS, ar 30 Sw), (oS, ob 5 fS), (aB, ar 6 B), (aF, ar 6 Fo), (aH, ar 6 Ho), (aL, ar 6 Lt), (oT, ob 5 (uF (uF (uF (uF fT 0 (iv pl)) 1 (iv n)) 2 (iv ec)) 3 (iv mk))), (tB, ar 6 Bv), (tF, ar 6 F2_18), (tH, ar 6 H2_19), (tL, ar 6 L2_20), (wD, ar 6 WD), (wK, ar 6 WK)]) rfl ?_
                    refine S_iast X 13 rfl (by omega) (by omega) (nle rfl) dX11_odds_91 ?_
                    refine S_w (ws' := [(h0, ob 10 f), (oW, ob 7 fW), (oP, ob 4 (uF (uF (uF fP 6 (iv pw)) 7 (iv nw)) 8 (iv kw))), (aA, ar 1206 Aw), (aT, ar 180 Tw), (aW, ar 6 Ww), (aS, ar 30 Sw), (oS, ob 5 fS), (aB, ar 6 B), (aF, ar 6 Fo), (aH, ar 6 Ho), (aL, ar 6 Lt), (oT, ob 5 (uF (uF (uF (uF fT 0 (iv pl)) 1 (iv n)) 2 (iv ec)) 3 (iv mk))), (tB, ar 6 (uZ Bv i (drF (WK i) (WD i) k9 su (B i)))), (tF, ar 6 F2_18), (tH, ar 6 H2_19), (tL, ar 6 L2_20), (wD, ar 6 WD), (wK, ar 6 WK)]) rfl ?_
                    refine S_iinc X dX11_odds_92 (nle rfl) hL48_5 ?_
                    refine S_goto (tgt := 48) X dX11_odds_95 (by decide) ?_
                    exact ih48 (i + 1) (uZ Bv i (drF (WK i) (WD i) k9 su (B i))) _ (by omega) (fun x h0 h1 => by unfold uZ; split; exact hdr9; exact hBv x h0 (by omega)) hL48_0 hL48_1 hL48_2 hL48_3 hL48_4 rfl (by omega)
              exact lp48_6 (Int.toNat (pl + 1 - 0) + 1) 0 Bz _ (by omega) (fun x h0 h1 => by omega) hL37_0 hL37_1 hL37_2 hL37_3 hL37_4 rfl (by omega)
        exact lp37_3 (Int.toNat (14 - 0) + 1) 0 0 B2_17 Ab Tm Wq Sp p0 n0 k0 _ (by omega) (by omega) rfl rfl rfl rfl rfl (by omega)
      ·
        refine S_iconst X dX11_odds_19 ?_
        exact S_iret X (nle rfl) (nle rfl) dX11_odds_20 (hPo _ _ (⟨_, _, _, _, _, _, _, _, _, _, _, _, _, _, _, _, rfl, rfl⟩))
set_option maxHeartbeats 4000000 in
set_option maxRecDepth 100000 in
theorem kX10_slot (l : Launch) (q : Int) (da : Int) (hq : 0 ≤ q ∧ q ≤ 5) (hd : -1 ≤ da ∧ da ≤ 5) : AMi l yX10_slot cX10_slot 2 .int 0 0 0 [iv q, iv da] [] (fun z u => z = q * 7 + da + 1 ∧ u = []) := by
  refine AMi.of2 rfl (nle rfl) ?_
  intro D G A p e s m args below meth c Po hPo X
  refine S_iload_n X dX10_slot_0 rfl rfl ?_
  refine S_bipush X dX10_slot_1 rfl ?_
  refine S_imul X dX10_slot_3 ?_
  refine S_iload_n X dX10_slot_4 rfl rfl ?_
  refine S_iadd X dX10_slot_5 ?_
  refine S_iconst X dX10_slot_6 ?_
  refine S_iadd X dX10_slot_7 ?_
  exact S_iret X (nle rfl) (nle rfl) dX10_slot_8 (hPo _ _ (⟨by first | rfl | omega, rfl⟩))
set_option maxHeartbeats 4000000 in
set_option maxRecDepth 100000 in
theorem kX10_foresee (l : Launch) (oK : Nat) (fK : Nat → AV) (kW : Nat) (kB : Nat) (Kw : Int → Int) (Bh : Int → Int) (oW : Nat) (wD : Nat) (wK : Nat) (fW : Nat → AV) (WD : Int → Int) (WK : Int → Int) (pl : Int) (mt : Int) (fS : Nat → AV) (pl : Int) (n : Int) (ec : Int) (oS : Nat) (aB : Nat) (B : Int → Int) (Fo : Int → Int) (Ho : Int → Int) (Lt : Int → Int) (hf0 : fK 5 = rv kW) (hf1 : fK 6 = rv kB) (hf2 : fW 3 = rv wD) (hf3 : fW 4 = rv wK) (hf4 : fW 0 = iv pl) (hf5 : fW 1 = iv mt) (hf6 : fS 4 = rv aB) (hok : okS pl n ec Fo Ho B Lt) (hod : okDy pl mt WK WD) (hkw : ∀ x, 0 ≤ x → x < 6 → 0 ≤ Kw x ∧ Kw x ≤ 9) : AMv l yX10_foresee cX10_foresee 7 2 0 0 [rv oK, rv oW, rv oS] [(oK, ob 9 fK), (kW, ar 6 Kw), (kB, ar 42 Bh), (oW, ob 7 fW), (wD, ar 6 WD), (wK, ar 6 WK), (oS, ob 5 fS), (aB, ar 6 B)] (fun u => ∃ B2 : Int → Int, u = [(oK, ob 9 fK), (kW, ar 6 Kw), (kB, ar 42 B2), (oW, ob 7 fW), (wD, ar 6 WD), (wK, ar 6 WK), (oS, ob 5 fS), (aB, ar 6 B)] ∧ bhW pl mt WK WD Kw B B2) := by
  refine AMv.of2 rfl (nle rfl) ?_
  intro D G A p e s m args below meth c Po hPo hnm X
  have hpl := hok.2.1
  have hpl1 := hok.1
  have hn1 := hok.2.2.1
  have hn2 := hok.2.2.2.1
  have hec := hok.2.2.2.2
  have hod1 := hod.1
  have hod2 := hod.2.1
  refine S_iconst X dX10_foresee_0 ?_
  refine S_istore_n X dX10_foresee_1 rfl (nle rfl) ?_
  refine S_iconst X dX10_foresee_2 ?_
  refine S_istore X dX10_foresee_3 (nle rfl) ?_
  have lp5_0 : ∀ (N : Nat) (da : Int) (su : Int) (Bw : Int → Int) (L : Nat → Option AV), -2 ≤ da ∧ da ≤ 5 → 0 ≤ su ∧ su ≤ 9 * (5 - da) ∧ su ≤ 54 → (-1 ≤ da → su = sfW Kw da) → (∀ x d, 0 ≤ x → x < pl → da < d → d ≤ 5 → Bw (x * 7 + d + 1) = drF (WK x) (WD x) (5 - d) (sfW Kw d) (if d = -1 then B x else mt)) → L 0 = some (rv oK) → L 1 = some (rv oW) → L 2 = some (rv oS) → L 3 = some (iv su) → L 4 = some (iv da) → da + 3 < (N : Int) → S_ p l e (rmD 2 0 0) s m args below meth c (MQ below (QcV D G A Po) args s 0 0 A) D G A 7 0 0 5 L [] [(oK, ob 9 fK), (kW, ar 6 Kw), (kB, ar 42 Bw), (oW, ob 7 fW), (wD, ar 6 WD), (wK, ar 6 WK), (oS, ob 5 fS), (aB, ar 6 B)] := by
    intro N
    induction N with
    | zero =>
      intro da su Bw L5 hda hsu hsu2 hBw hL5_0 hL5_1 hL5_2 hL5_3 hL5_4 hN5
      exfalso; omega
    | succ N ih5 =>
      intro da su Bw L5 hda hsu hsu2 hBw hL5_0 hL5_1 hL5_2 hL5_3 hL5_4 hN5
      refine S_iload X dX10_foresee_5 hL5_4 ?_
      refine S_iconst X dX10_foresee_7 ?_
      refine S_icmp_lt (tgt := 102) X dX10_foresee_8 (by decide) (by omega) (by decide) (fun c_1 => ?_) (fun c_1 => ?_)
      ·
        exact S_vret X (nle rfl) (nle rfl) dX10_foresee_102 (hPo _ (⟨_, rfl, fun x d h0 h1 h2 h3 => hBw x d h0 h1 (by omega) h3⟩))
      ·
        refine S_iconst X dX10_foresee_11 ?_
        refine S_istore X dX10_foresee_12 (nle rfl) ?_
        have lp14_3 : ∀ (N : Nat) (i : Int) (Bv : Int → Int) (L : Nat → Option AV), 0 ≤ i ∧ i ≤ pl → (∀ x d, 0 ≤ x → x < pl → da < d → d ≤ 5 → Bv (x * 7 + d + 1) = drF (WK x) (WD x) (5 - d) (sfW Kw d) (if d = -1 then B x else mt)) → (∀ x, 0 ≤ x → x < i → Bv (x * 7 + da + 1) = drF (WK x) (WD x) (5 - da) (sfW Kw da) (if da = -1 then B x else mt)) → L 0 = some (rv oK) → L 1 = some (rv oW) → L 2 = some (rv oS) → L 3 = some (iv su) → L 4 = some (iv da) → L 5 = some (iv i) → pl + 1 - i < (N : Int) → S_ p l e (rmD 2 0 0) s m args below meth c (MQ below (QcV D G A Po) args s 0 0 A) D G A 7 0 0 14 L [] [(oK, ob 9 fK), (kW, ar 6 Kw), (kB, ar 42 Bv), (oW, ob 7 fW), (wD, ar 6 WD), (wK, ar 6 WK), (oS, ob 5 fS), (aB, ar 6 B)] := by
          intro N
          induction N with
          | zero =>
            intro i Bv L14 hi hBv hBu hL14_0 hL14_1 hL14_2 hL14_3 hL14_4 hL14_5 hN14
            exfalso; omega
          | succ N ih14 =>
            intro i Bv L14 hi hBv hBu hL14_0 hL14_1 hL14_2 hL14_3 hL14_4 hL14_5 hN14
            refine S_iload X dX10_foresee_14 hL14_5 ?_
            refine S_aload_n X dX10_foresee_16 rfl hL14_1 ?_
            refine S_get X fgX10_62_7 3 rfl hf4 dX10_foresee_17 ?_
            refine S_icmp_ge (tgt := 76) X dX10_foresee_20 (by decide) (by omega) (by omega) (fun c_2 => ?_) (fun c_2 => ?_)
            ·
              refine S_iload_n X dX10_foresee_76 rfl hL14_3 ?_
              refine S_iload X dX10_foresee_77 hL14_4 ?_
              refine S_iconst X dX10_foresee_79 ?_
              refine S_icmp_ne (tgt := 87) X dX10_foresee_80 (by decide) (by omega) (by decide) (fun c_3 => ?_) (fun c_3 => ?_)
              ·
                have hw9 := hkw da (by omega) (by omega)
                refine S_aload_n X dX10_foresee_87 rfl hL14_0 ?_
                refine S_get X fgX10_9_9 0 rfl hf0 dX10_foresee_88 ?_
                refine S_iload X dX10_foresee_91 hL14_4 ?_
                refine S_iald X 1 rfl (by omega) (by omega) (nle rfl) dX10_foresee_93 ?_
                refine S_iadd X dX10_foresee_94 ?_
                refine S_istore_n X dX10_foresee_95 rfl (nle rfl) ?_
                refine S_iinc X dX10_foresee_96 (nle rfl) hL14_4 ?_
                refine S_goto (tgt := 5) X dX10_foresee_99 (by decide) ?_
                exact ih5 (da + (-1)) (su + (Kw da)) Bv _ (by omega) (by omega) (fun h9 => by first | (exfalso; omega) | (rw [show da + -1 = da - 1 by omega, sfW_S (by omega), ← hsu2 (by omega)])) (fun x d h0 h1 h2 h3 => (by omega : da < d ∨ d = da).elim (fun q9 => hBv x d h0 h1 q9 h3) (fun q9 => by rw [q9]; exact hBu x h0 (by omega))) hL14_0 hL14_1 hL14_2 rfl rfl (by omega)
              ·
                refine S_iconst X dX10_foresee_83 ?_
                refine S_goto (tgt := 94) X dX10_foresee_84 (by decide) ?_
                refine S_iadd X dX10_foresee_94 ?_
                refine S_istore_n X dX10_foresee_95 rfl (nle rfl) ?_
                refine S_iinc X dX10_foresee_96 (nle rfl) hL14_4 ?_
                refine S_goto (tgt := 5) X dX10_foresee_99 (by decide) ?_
                exact ih5 (da + (-1)) (su + 0) Bv _ (by omega) (by omega) (fun h9 => by first | (exfalso; omega) | (rw [show da + -1 = da - 1 by omega, sfW_S (by omega), ← hsu2 (by omega)])) (fun x d h0 h1 h2 h3 => (by omega : da < d ∨ d = da).elim (fun q9 => hBv x d h0 h1 q9 h3) (fun q9 => by rw [q9]; exact hBu x h0 (by omega))) hL14_0 hL14_1 hL14_2 rfl rfl (by omega)
            ·
              have hB1 := (hok.2.2.2.2.2.2 i (by omega) (by omega)).2.2.1
              refine S_iload X dX10_foresee_23 hL14_4 ?_
              refine S_iconst X dX10_foresee_25 ?_
              refine S_icmp_ne (tgt := 39) X dX10_foresee_26 (by decide) (by omega) (by decide) (fun c_4 => ?_) (fun c_4 => ?_)
              ·
                refine S_aload_n X dX10_foresee_39 rfl hL14_1 ?_
                refine S_get X fgX10_65_7 3 rfl hf5 dX10_foresee_40 ?_
                refine S_istore X dX10_foresee_43 (nle rfl) ?_
                refine S_aload_n X dX10_foresee_45 rfl hL14_0 ?_
                refine S_get X fgX10_15_9 0 rfl hf1 dX10_foresee_46 ?_
                refine S_iload X dX10_foresee_49 hL14_5 ?_
                refine S_iload X dX10_foresee_51 hL14_4 ?_
                refine S_calli X (kX10_slot l i da (by omega) (by omega)) (is := []) rfl (run_S X lkX10_43 (is := []) (avs := [iv i, iv da]) (rest := [rv kB]) rfl rfl (nle rfl) ⟨nle rfl, nle rfl⟩ ⟨nle rfl, nle rfl⟩ dX10_foresee_53 (by decide) rfl) (fun z_7 u_5 hp_6 => ?_)
                obtain ⟨hz_8, hu_9⟩ := hp_6
                subst hz_8
                subst hu_9
                refine ⟨rfl, ?_⟩
                refine S_w (ws' := [(oK, ob 9 fK), (kW, ar 6 Kw), (kB, ar 42 Bv), (oW, ob 7 fW), (wD, ar 6 WD), (wK, ar 6 WK), (oS, ob 5 fS), (aB, ar 6 B)]) rfl ?_
                refine S_aload_n X dX10_foresee_56 rfl hL14_1 ?_
                refine S_iload X dX10_foresee_57 hL14_5 ?_
                refine S_iload X dX10_foresee_59 rfl ?_
                refine S_iconst X dX10_foresee_61 ?_
                refine S_iload X dX10_foresee_62 hL14_4 ?_
                refine S_isub X dX10_foresee_64 ?_
                refine S_iload_n X dX10_foresee_65 rfl hL14_3 ?_
                have hdr9 := drF_in (WK i) (WD i) (5 - da) su mt
                refine S_calli X (kX8_drifted l oW wD wK fW WD WK i mt (5 - da) su hf2 hf3 (by omega) (hod.2.2 i (by omega) (by omega)).2 (hod.2.2 i (by omega) (by omega)).1 (by omega) (by omega) (by omega)) (is := [3, 4, 5]) rfl (run_V X lkX10_68 3 rfl rfl (is := [3, 4, 5]) (avs := [iv i, iv mt, iv (5 - da), iv su]) (rest := [iv (i * 7 + da + 1), rv kB]) rfl rfl (nle rfl) ⟨nle rfl, nle rfl⟩ ⟨nle rfl, nle rfl⟩ dX10_foresee_66 (by decide) rfl) (fun z_12 u_10 hp_11 => ?_)
                obtain ⟨hz_13, hu_14⟩ := hp_11
                subst hz_13
                subst hu_14
                refine ⟨rfl, ?_⟩
                refine S_w (ws' := [(oK, ob 9 fK), (kW, ar 6 Kw), (kB, ar 42 Bv), (oW, ob 7 fW), (wD, ar 6 WD), (wK, ar 6 WK), (oS, ob 5 fS), (aB, ar 6 B)]) rfl ?_
                refine S_iast X 2 rfl (by omega) (by omega) (nle rfl) dX10_foresee_69 ?_
                refine S_w (ws' := [(oK, ob 9 fK), (kW, ar 6 Kw), (kB, ar 42 (uZ Bv (i * 7 + da + 1) (drF (WK i) (WD i) (5 - da) su mt))), (oW, ob 7 fW), (wD, ar 6 WD), (wK, ar 6 WK), (oS, ob 5 fS), (aB, ar 6 B)]) rfl ?_
                refine S_iinc X dX10_foresee_70 (nle rfl) hL14_5 ?_
                refine S_goto (tgt := 14) X dX10_foresee_73 (by decide) ?_
                exact ih14 (i + 1) (uZ Bv (i * 7 + da + 1) (drF (WK i) (WD i) (5 - da) su mt)) _ (by omega) (fun x d h0 h1 h2 h3 => by rw [uZ_ne (by omega)]; exact hBv x d h0 h1 h2 h3) (fun x h0 h1 => (by omega : x < i ∨ x = i).elim (fun q9 => by rw [uZ_ne (by omega)]; exact hBu x h0 q9) (fun q9 => by rw [q9, uZ_at, ← hsu2 (by omega)]; first | rw [if_pos (by omega)] | rw [if_neg (by omega)])) hL14_0 hL14_1 hL14_2 hL14_3 hL14_4 rfl (by omega)
              ·
                refine S_aload_n X dX10_foresee_29 rfl hL14_2 ?_
                refine S_get X fgX10_40_5 6 rfl hf6 dX10_foresee_30 ?_
                refine S_iload X dX10_foresee_33 hL14_5 ?_
                refine S_iald X 7 rfl (by omega) (by omega) (nle rfl) dX10_foresee_35 ?_
                refine S_goto (tgt := 43) X dX10_foresee_36 (by decide) ?_
                refine S_istore X dX10_foresee_43 (nle rfl) ?_
                refine S_aload_n X dX10_foresee_45 rfl hL14_0 ?_
                refine S_get X fgX10_15_9 0 rfl hf1 dX10_foresee_46 ?_
                refine S_iload X dX10_foresee_49 hL14_5 ?_
                refine S_iload X dX10_foresee_51 hL14_4 ?_
                refine S_calli X (kX10_slot l i da (by omega) (by omega)) (is := []) rfl (run_S X lkX10_43 (is := []) (avs := [iv i, iv da]) (rest := [rv kB]) rfl rfl (nle rfl) ⟨nle rfl, nle rfl⟩ ⟨nle rfl, nle rfl⟩ dX10_foresee_53 (by decide) rfl) (fun z_17 u_15 hp_16 => ?_)
                obtain ⟨hz_18, hu_19⟩ := hp_16
                subst hz_18
                subst hu_19
                refine ⟨rfl, ?_⟩
                refine S_w (ws' := [(oK, ob 9 fK), (kW, ar 6 Kw), (kB, ar 42 Bv), (oW, ob 7 fW), (wD, ar 6 WD), (wK, ar 6 WK), (oS, ob 5 fS), (aB, ar 6 B)]) rfl ?_
                refine S_aload_n X dX10_foresee_56 rfl hL14_1 ?_
                refine S_iload X dX10_foresee_57 hL14_5 ?_
                refine S_iload X dX10_foresee_59 rfl ?_
                refine S_iconst X dX10_foresee_61 ?_
                refine S_iload X dX10_foresee_62 hL14_4 ?_
                refine S_isub X dX10_foresee_64 ?_
                refine S_iload_n X dX10_foresee_65 rfl hL14_3 ?_
                have hdr9 := drF_in (WK i) (WD i) (5 - da) su (B i)
                refine S_calli X (kX8_drifted l oW wD wK fW WD WK i (B i) (5 - da) su hf2 hf3 (by omega) (hod.2.2 i (by omega) (by omega)).2 (hod.2.2 i (by omega) (by omega)).1 (by omega) (by omega) (by omega)) (is := [3, 4, 5]) rfl (run_V X lkX10_68 3 rfl rfl (is := [3, 4, 5]) (avs := [iv i, iv (B i), iv (5 - da), iv su]) (rest := [iv (i * 7 + da + 1), rv kB]) rfl rfl (nle rfl) ⟨nle rfl, nle rfl⟩ ⟨nle rfl, nle rfl⟩ dX10_foresee_66 (by decide) rfl) (fun z_22 u_20 hp_21 => ?_)
                obtain ⟨hz_23, hu_24⟩ := hp_21
                subst hz_23
                subst hu_24
                refine ⟨rfl, ?_⟩
                refine S_w (ws' := [(oK, ob 9 fK), (kW, ar 6 Kw), (kB, ar 42 Bv), (oW, ob 7 fW), (wD, ar 6 WD), (wK, ar 6 WK), (oS, ob 5 fS), (aB, ar 6 B)]) rfl ?_
                refine S_iast X 2 rfl (by omega) (by omega) (nle rfl) dX10_foresee_69 ?_
                refine S_w (ws' := [(oK, ob 9 fK), (kW, ar 6 Kw), (kB, ar 42 (uZ Bv (i * 7 + da + 1) (drF (WK i) (WD i) (5 - da) su (B i)))), (oW, ob 7 fW), (wD, ar 6 WD), (wK, ar 6 WK), (oS, ob 5 fS), (aB, ar 6 B)]) rfl ?_
                refine S_iinc X dX10_foresee_70 (nle rfl) hL14_5 ?_
                refine S_goto (tgt := 14) X dX10_foresee_73 (by decide) ?_
                exact ih14 (i + 1) (uZ Bv (i * 7 + da + 1) (drF (WK i) (WD i) (5 - da) su (B i))) _ (by omega) (fun x d h0 h1 h2 h3 => by rw [uZ_ne (by omega)]; exact hBv x d h0 h1 h2 h3) (fun x h0 h1 => (by omega : x < i ∨ x = i).elim (fun q9 => by rw [uZ_ne (by omega)]; exact hBu x h0 q9) (fun q9 => by rw [q9, uZ_at, ← hsu2 (by omega)]; first | rw [if_pos (by omega)] | rw [if_neg (by omega)])) hL14_0 hL14_1 hL14_2 hL14_3 hL14_4 rfl (by omega)
        exact lp14_3 (Int.toNat (pl + 1 - 0) + 1) 0 Bw _ (by omega) (hBw) (fun x h0 h1 => by omega) hL5_0 hL5_1 hL5_2 hL5_3 hL5_4 rfl (by omega)
  exact lp5_0 (Int.toNat (5 + 3) + 1) 5 0 Bh _ (by omega) (by omega) (fun _ => rfl) (fun x d h0 h1 h2 h3 => by omega) rfl rfl rfl rfl rfl (by omega)
set_option maxHeartbeats 4000000 in
set_option maxRecDepth 100000 in
theorem kX10_weigh (l : Launch) (oK : Nat) (fK : Nat → AV) (ro : Int) (le : Int) (fP : Nat → AV) (fS : Nat → AV) (pl : Int) (n : Int) (ec : Int) (mk : Int) (oP : Nat) (oS : Nat) (aA : Nat) (aT : Nat) (aW : Nat) (aS : Nat) (aB : Nat) (aF : Nat) (aH : Nat) (aL : Nat) (Ab : Int → Int) (Tm : Int → Int) (Wq : Int → Int) (Sp : Int → Int) (B : Int → Int) (Fo : Int → Int) (Ho : Int → Int) (Lt : Int → Int) (p0 : Int) (n0 : Int) (k0 : Int) (re : Int) (hf0 : fK 3 = rv oP) (hf1 : fK 4 = rv oS) (hf2 : fP 0 = rv aA) (hf3 : fP 1 = rv aT) (hf4 : fP 2 = rv aW) (hf5 : fP 3 = rv aS) (hf6 : fS 0 = iv pl) (hf7 : fS 1 = iv n) (hf8 : fS 2 = iv ec) (hf9 : fS 3 = iv mk) (hf10 : fS 4 = rv aB) (hf11 : fS 5 = rv aF) (hf12 : fS 6 = rv aH) (hf13 : fS 7 = rv aL) (hok : okS pl n ec Fo Ho B Lt) (hre : 0 ≤ re ∧ re ≤ 999999) (hro : 0 ≤ ro ∧ ro ≤ 1000000000) (hle : 0 ≤ le ∧ le ≤ 1000000000) : AMv l yX10_weigh cX10_weigh 4 3 0 0 [rv oK, iv re] [(oK, ob 9 (uF (uF fK 1 (iv ro)) 2 (iv le))), (oP, ob 4 (uF (uF (uF fP 6 (iv p0)) 7 (iv n0)) 8 (iv k0))), (aA, ar 1206 Ab), (aT, ar 180 Tm), (aW, ar 6 Wq), (aS, ar 30 Sp), (oS, ob 5 fS), (aB, ar 6 B), (aF, ar 6 Fo), (aH, ar 6 Ho), (aL, ar 6 Lt)] (fun u => ∃ r2 : Int, ∃ l2 : Int, ∃ p9 : Int, ∃ n9 : Int, ∃ k9 : Int, ∃ A2 : Int → Int, ∃ T2 : Int → Int, ∃ W2 : Int → Int, ∃ S2 : Int → Int, u = [(oK, ob 9 (uF (uF fK 1 (iv r2)) 2 (iv l2))), (oP, ob 4 (uF (uF (uF fP 6 (iv p9)) 7 (iv n9)) 8 (iv k9))), (aA, ar 1206 A2), (aT, ar 180 T2), (aW, ar 6 W2), (aS, ar 30 S2), (oS, ob 5 fS), (aB, ar 6 B), (aF, ar 6 Fo), (aH, ar 6 Ho), (aL, ar 6 Lt)] ∧ (0 ≤ r2 ∧ r2 ≤ 1000000000) ∧ (0 ≤ l2 ∧ l2 ≤ 1000000000) ∧ (r2, l2) = wg (ro, le) re (WO pl n ec mk Fo Ho B Lt)) := by
  refine AMv.of2 rfl (nle rfl) ?_
  intro D G A p e s m args below meth c Po hPo hnm X
  have hwr := hok.worst (mk := mk)
  have hn9 := hok.2.2.1
  refine S_iload_n X dX10_weigh_0 rfl rfl ?_
  refine S_aload_n X dX10_weigh_1 rfl rfl ?_
  refine S_get (v := iv ro) X fgX10_48_9 0 rfl rfl dX10_weigh_2 ?_
  refine S_icmp_ge (tgt := 17) X dX10_weigh_5 (by decide) (by omega) (by omega) (fun c_1 => ?_) (fun c_1 => ?_)
  ·
    refine S_aload_n X dX10_weigh_17 rfl rfl ?_
    refine S_get (v := iv le) X fgX10_51_9 0 rfl rfl dX10_weigh_18 ?_
    refine S_istore_n X dX10_weigh_21 rfl (nle rfl) ?_
    refine S_iload_n X dX10_weigh_22 rfl rfl ?_
    refine S_if_le (tgt := 41) X dX10_weigh_23 (by decide) (by omega) (fun c_2 => ?_) (fun c_2 => ?_)
    ·
      refine S_iload_n X dX10_weigh_41 rfl rfl ?_
      refine S_istore_n X dX10_weigh_42 rfl (nle rfl) ?_
      refine S_iload_n X dX10_weigh_43 rfl rfl ?_
      refine S_iload_n X dX10_weigh_44 rfl rfl ?_
      refine S_icmp_ge (tgt := 58) X dX10_weigh_45 (by decide) (by omega) (by omega) (fun c_3 => ?_) (fun c_3 => ?_)
      ·
        exact S_vret X (nle rfl) (nle rfl) dX10_weigh_58 (hPo _ (⟨_, _, _, _, _, _, _, _, _, rfl, by omega, by omega, by unfold wg; first | (rw [if_pos (by dsimp only; omega)]; done) | (rw [if_neg (by dsimp only; omega)]; done) | (exfalso; omega)⟩))
      ·
        refine S_aload_n X dX10_weigh_48 rfl rfl ?_
        refine S_iload_n X dX10_weigh_49 rfl rfl ?_
        refine S_put X fpX10_51_9 0 rfl FT_i dX10_weigh_50 ?_
        refine S_w (ws' := [(oK, ob 9 (uF (uF fK 1 (iv ro)) 2 (iv le))), (oP, ob 4 (uF (uF (uF fP 6 (iv p0)) 7 (iv n0)) 8 (iv k0))), (aA, ar 1206 Ab), (aT, ar 180 Tm), (aW, ar 6 Wq), (aS, ar 30 Sp), (oS, ob 5 fS), (aB, ar 6 B), (aF, ar 6 Fo), (aH, ar 6 Ho), (aL, ar 6 Lt)]) (by simp only [List.set]; rw [uF_same (k := 2)]) ?_
        refine S_aload_n X dX10_weigh_53 rfl rfl ?_
        refine S_iload_n X dX10_weigh_54 rfl rfl ?_
        refine S_put X fpX10_48_9 0 rfl FT_i dX10_weigh_55 ?_
        refine S_w (ws' := [(oK, ob 9 (uF (uF fK 1 (iv re)) 2 (iv le))), (oP, ob 4 (uF (uF (uF fP 6 (iv p0)) 7 (iv n0)) 8 (iv k0))), (aA, ar 1206 Ab), (aT, ar 180 Tm), (aW, ar 6 Wq), (aS, ar 30 Sp), (oS, ob 5 fS), (aB, ar 6 B), (aF, ar 6 Fo), (aH, ar 6 Ho), (aL, ar 6 Lt)]) (by simp only [List.set]; rw [uF_mv (j := 2) (k := 1) (by decide), uF_same (k := 1)]) ?_
        exact S_vret X (nle rfl) (nle rfl) dX10_weigh_58 (hPo _ (⟨_, _, _, _, _, _, _, _, _, rfl, by omega, by omega, by unfold wg; first | (rw [if_pos (by dsimp only; omega)]; done) | (rw [if_neg (by dsimp only; omega)]; done) | (exfalso; omega)⟩))
    ·
      refine S_aload_n X dX10_weigh_26 rfl rfl ?_
      refine S_get X fgX10_18_9 0 rfl hf0 dX10_weigh_27 ?_
      refine S_aload_n X dX10_weigh_30 rfl rfl ?_
      refine S_get X fgX10_22_9 0 rfl hf1 dX10_weigh_31 ?_
      refine S_iload_n X dX10_weigh_34 rfl rfl ?_
      refine S_calli X (kX4_perform l fP fS pl n ec mk oP oS aA aT aW aS aB aF aH aL Ab Tm Wq Sp B Fo Ho Lt p0 n0 k0 le hf2 hf3 hf4 hf5 hf6 hf7 hf8 hf9 hf10 hf11 hf12 hf13 hok (by omega)) (is := [1, 2, 3, 4, 5, 6, 7, 8, 9, 10]) rfl (run_V X lkX10_76 1 rfl rfl (is := [1, 2, 3, 4, 5, 6, 7, 8, 9, 10]) (avs := [rv oS, iv le]) (rest := []) rfl rfl (nle rfl) ⟨nle rfl, nle rfl⟩ ⟨nle rfl, nle rfl⟩ dX10_weigh_35 (by decide) rfl) (fun z_6 u_4 hp_5 => ?_)
      rcases hp_5 with ⟨A2_7, T2_8, W2_9, S2_10, hz_11, hu_12, hq_13⟩ | ⟨A2_14, T2_15, W2_16, S2_17, hz_18, hu_19, hq_20, hA2_21, hT2_22, hS2_23⟩
      ·
        replace hz_11 := Eq.symm hz_11
        subst hz_11
        subst hu_12
        refine ⟨rfl, ?_⟩
        refine S_w (ws' := [(oK, ob 9 (uF (uF fK 1 (iv ro)) 2 (iv le))), (oP, ob 4 (uF (uF (uF fP 6 (iv pl)) 7 (iv n)) 8 (iv mk))), (aA, ar 1206 A2_7), (aT, ar 180 T2_8), (aW, ar 6 W2_9), (aS, ar 30 S2_10), (oS, ob 5 fS), (aB, ar 6 B), (aF, ar 6 Fo), (aH, ar 6 Ho), (aL, ar 6 Lt)]) rfl ?_
        refine S_goto (tgt := 42) X dX10_weigh_38 (by decide) ?_
        refine S_istore_n X dX10_weigh_42 rfl (nle rfl) ?_
        refine S_iload_n X dX10_weigh_43 rfl rfl ?_
        refine S_iload_n X dX10_weigh_44 rfl rfl ?_
        refine S_icmp_ge (tgt := 58) X dX10_weigh_45 (by decide) (by omega) (by omega) (fun c_24 => ?_) (fun c_24 => ?_)
        ·
          exact S_vret X (nle rfl) (nle rfl) dX10_weigh_58 (hPo _ (⟨_, _, _, _, _, _, _, _, _, rfl, by omega, by omega, by unfold wg; first | (rw [if_pos (by dsimp only; omega)]; done) | (rw [if_neg (by dsimp only; omega)]; done) | (exfalso; omega)⟩))
        ·
          refine S_aload_n X dX10_weigh_48 rfl rfl ?_
          refine S_iload_n X dX10_weigh_49 rfl rfl ?_
          refine S_put X fpX10_51_9 0 rfl FT_i dX10_weigh_50 ?_
          refine S_w (ws' := [(oK, ob 9 (uF (uF fK 1 (iv ro)) 2 (iv le))), (oP, ob 4 (uF (uF (uF fP 6 (iv pl)) 7 (iv n)) 8 (iv mk))), (aA, ar 1206 A2_7), (aT, ar 180 T2_8), (aW, ar 6 W2_9), (aS, ar 30 S2_10), (oS, ob 5 fS), (aB, ar 6 B), (aF, ar 6 Fo), (aH, ar 6 Ho), (aL, ar 6 Lt)]) (by simp only [List.set]; rw [uF_same (k := 2)]) ?_
          refine S_aload_n X dX10_weigh_53 rfl rfl ?_
          refine S_iload_n X dX10_weigh_54 rfl rfl ?_
          refine S_put X fpX10_48_9 0 rfl FT_i dX10_weigh_55 ?_
          refine S_w (ws' := [(oK, ob 9 (uF (uF fK 1 (iv re)) 2 (iv le))), (oP, ob 4 (uF (uF (uF fP 6 (iv pl)) 7 (iv n)) 8 (iv mk))), (aA, ar 1206 A2_7), (aT, ar 180 T2_8), (aW, ar 6 W2_9), (aS, ar 30 S2_10), (oS, ob 5 fS), (aB, ar 6 B), (aF, ar 6 Fo), (aH, ar 6 Ho), (aL, ar 6 Lt)]) (by simp only [List.set]; rw [uF_mv (j := 2) (k := 1) (by decide), uF_same (k := 1)]) ?_
          exact S_vret X (nle rfl) (nle rfl) dX10_weigh_58 (hPo _ (⟨_, _, _, _, _, _, _, _, _, rfl, by omega, by omega, by unfold wg; first | (rw [if_pos (by dsimp only; omega)]; done) | (rw [if_neg (by dsimp only; omega)]; done) | (exfalso; omega)⟩))
      ·
        subst hz_18
        subst hu_19
        refine ⟨rfl, ?_⟩
        refine S_w (ws' := [(oK, ob 9 (uF (uF fK 1 (iv ro)) 2 (iv le))), (oP, ob 4 (uF (uF (uF fP 6 (iv pl)) 7 (iv n)) 8 (iv mk))), (aA, ar 1206 A2_14), (aT, ar 180 T2_15), (aW, ar 6 W2_16), (aS, ar 30 S2_17), (oS, ob 5 fS), (aB, ar 6 B), (aF, ar 6 Fo), (aH, ar 6 Ho), (aL, ar 6 Lt)]) rfl ?_
        refine S_goto (tgt := 42) X dX10_weigh_38 (by decide) ?_
        refine S_istore_n X dX10_weigh_42 rfl (nle rfl) ?_
        refine S_iload_n X dX10_weigh_43 rfl rfl ?_
        refine S_iload_n X dX10_weigh_44 rfl rfl ?_
        refine S_icmp_ge (tgt := 58) X dX10_weigh_45 (by decide) (by omega) (by omega) (fun c_25 => ?_) (fun c_25 => ?_)
        ·
          exact S_vret X (nle rfl) (nle rfl) dX10_weigh_58 (hPo _ (⟨_, _, _, _, _, _, _, _, _, rfl, by omega, by omega, by unfold wg; first | (rw [if_pos (by dsimp only; omega)]; done) | (rw [if_neg (by dsimp only; omega)]; done) | (exfalso; omega)⟩))
        ·
          refine S_aload_n X dX10_weigh_48 rfl rfl ?_
          refine S_iload_n X dX10_weigh_49 rfl rfl ?_
          refine S_put X fpX10_51_9 0 rfl FT_i dX10_weigh_50 ?_
          refine S_w (ws' := [(oK, ob 9 (uF (uF fK 1 (iv ro)) 2 (iv (WO pl n ec mk Fo Ho B Lt)))), (oP, ob 4 (uF (uF (uF fP 6 (iv pl)) 7 (iv n)) 8 (iv mk))), (aA, ar 1206 A2_14), (aT, ar 180 T2_15), (aW, ar 6 W2_16), (aS, ar 30 S2_17), (oS, ob 5 fS), (aB, ar 6 B), (aF, ar 6 Fo), (aH, ar 6 Ho), (aL, ar 6 Lt)]) (by simp only [List.set]; rw [uF_same (k := 2)]) ?_
          refine S_aload_n X dX10_weigh_53 rfl rfl ?_
          refine S_iload_n X dX10_weigh_54 rfl rfl ?_
          refine S_put X fpX10_48_9 0 rfl FT_i dX10_weigh_55 ?_
          refine S_w (ws' := [(oK, ob 9 (uF (uF fK 1 (iv re)) 2 (iv (WO pl n ec mk Fo Ho B Lt)))), (oP, ob 4 (uF (uF (uF fP 6 (iv pl)) 7 (iv n)) 8 (iv mk))), (aA, ar 1206 A2_14), (aT, ar 180 T2_15), (aW, ar 6 W2_16), (aS, ar 30 S2_17), (oS, ob 5 fS), (aB, ar 6 B), (aF, ar 6 Fo), (aH, ar 6 Ho), (aL, ar 6 Lt)]) (by simp only [List.set]; rw [uF_mv (j := 2) (k := 1) (by decide), uF_same (k := 1)]) ?_
          exact S_vret X (nle rfl) (nle rfl) dX10_weigh_58 (hPo _ (⟨_, _, _, _, _, _, _, _, _, rfl, by omega, by omega, by unfold wg; first | (rw [if_pos (by dsimp only; omega)]; done) | (rw [if_neg (by dsimp only; omega)]; done) | (exfalso; omega)⟩))
  ·
    refine S_aload_n X dX10_weigh_8 rfl rfl ?_
    refine S_get (v := iv le) X fgX10_51_9 0 rfl rfl dX10_weigh_9 ?_
    refine S_iconst X dX10_weigh_12 ?_
    refine S_iadd X dX10_weigh_13 ?_
    refine S_goto (tgt := 21) X dX10_weigh_14 (by decide) ?_
    refine S_istore_n X dX10_weigh_21 rfl (nle rfl) ?_
    refine S_iload_n X dX10_weigh_22 rfl rfl ?_
    refine S_if_le (tgt := 41) X dX10_weigh_23 (by decide) (by omega) (fun c_26 => ?_) (fun c_26 => ?_)
    ·
      refine S_iload_n X dX10_weigh_41 rfl rfl ?_
      refine S_istore_n X dX10_weigh_42 rfl (nle rfl) ?_
      refine S_iload_n X dX10_weigh_43 rfl rfl ?_
      refine S_iload_n X dX10_weigh_44 rfl rfl ?_
      refine S_icmp_ge (tgt := 58) X dX10_weigh_45 (by decide) (by omega) (by omega) (fun c_27 => ?_) (fun c_27 => ?_)
      ·
        exact S_vret X (nle rfl) (nle rfl) dX10_weigh_58 (hPo _ (⟨_, _, _, _, _, _, _, _, _, rfl, by omega, by omega, by unfold wg; first | (rw [if_pos (by dsimp only; omega)]; done) | (rw [if_neg (by dsimp only; omega)]; done) | (exfalso; omega)⟩))
      ·
        refine S_aload_n X dX10_weigh_48 rfl rfl ?_
        refine S_iload_n X dX10_weigh_49 rfl rfl ?_
        refine S_put X fpX10_51_9 0 rfl FT_i dX10_weigh_50 ?_
        refine S_w (ws' := [(oK, ob 9 (uF (uF fK 1 (iv ro)) 2 (iv (le + 1)))), (oP, ob 4 (uF (uF (uF fP 6 (iv p0)) 7 (iv n0)) 8 (iv k0))), (aA, ar 1206 Ab), (aT, ar 180 Tm), (aW, ar 6 Wq), (aS, ar 30 Sp), (oS, ob 5 fS), (aB, ar 6 B), (aF, ar 6 Fo), (aH, ar 6 Ho), (aL, ar 6 Lt)]) (by simp only [List.set]; rw [uF_same (k := 2)]) ?_
        refine S_aload_n X dX10_weigh_53 rfl rfl ?_
        refine S_iload_n X dX10_weigh_54 rfl rfl ?_
        refine S_put X fpX10_48_9 0 rfl FT_i dX10_weigh_55 ?_
        refine S_w (ws' := [(oK, ob 9 (uF (uF fK 1 (iv re)) 2 (iv (le + 1)))), (oP, ob 4 (uF (uF (uF fP 6 (iv p0)) 7 (iv n0)) 8 (iv k0))), (aA, ar 1206 Ab), (aT, ar 180 Tm), (aW, ar 6 Wq), (aS, ar 30 Sp), (oS, ob 5 fS), (aB, ar 6 B), (aF, ar 6 Fo), (aH, ar 6 Ho), (aL, ar 6 Lt)]) (by simp only [List.set]; rw [uF_mv (j := 2) (k := 1) (by decide), uF_same (k := 1)]) ?_
        exact S_vret X (nle rfl) (nle rfl) dX10_weigh_58 (hPo _ (⟨_, _, _, _, _, _, _, _, _, rfl, by omega, by omega, by unfold wg; first | (rw [if_pos (by dsimp only; omega)]; done) | (rw [if_neg (by dsimp only; omega)]; done) | (exfalso; omega)⟩))
    ·
      refine S_aload_n X dX10_weigh_26 rfl rfl ?_
      refine S_get X fgX10_18_9 0 rfl hf0 dX10_weigh_27 ?_
      refine S_aload_n X dX10_weigh_30 rfl rfl ?_
      refine S_get X fgX10_22_9 0 rfl hf1 dX10_weigh_31 ?_
      refine S_iload_n X dX10_weigh_34 rfl rfl ?_
      refine S_calli X (kX4_perform l fP fS pl n ec mk oP oS aA aT aW aS aB aF aH aL Ab Tm Wq Sp B Fo Ho Lt p0 n0 k0 (le + 1) hf2 hf3 hf4 hf5 hf6 hf7 hf8 hf9 hf10 hf11 hf12 hf13 hok (by omega)) (is := [1, 2, 3, 4, 5, 6, 7, 8, 9, 10]) rfl (run_V X lkX10_76 1 rfl rfl (is := [1, 2, 3, 4, 5, 6, 7, 8, 9, 10]) (avs := [rv oS, iv (le + 1)]) (rest := []) rfl rfl (nle rfl) ⟨nle rfl, nle rfl⟩ ⟨nle rfl, nle rfl⟩ dX10_weigh_35 (by decide) rfl) (fun z_30 u_28 hp_29 => ?_)
      rcases hp_29 with ⟨A2_31, T2_32, W2_33, S2_34, hz_35, hu_36, hq_37⟩ | ⟨A2_38, T2_39, W2_40, S2_41, hz_42, hu_43, hq_44, hA2_45, hT2_46, hS2_47⟩
      ·
        subst hz_35
        subst hu_36
        refine ⟨rfl, ?_⟩
        refine S_w (ws' := [(oK, ob 9 (uF (uF fK 1 (iv ro)) 2 (iv le))), (oP, ob 4 (uF (uF (uF fP 6 (iv pl)) 7 (iv n)) 8 (iv mk))), (aA, ar 1206 A2_31), (aT, ar 180 T2_32), (aW, ar 6 W2_33), (aS, ar 30 S2_34), (oS, ob 5 fS), (aB, ar 6 B), (aF, ar 6 Fo), (aH, ar 6 Ho), (aL, ar 6 Lt)]) rfl ?_
        refine S_goto (tgt := 42) X dX10_weigh_38 (by decide) ?_
        refine S_istore_n X dX10_weigh_42 rfl (nle rfl) ?_
        refine S_iload_n X dX10_weigh_43 rfl rfl ?_
        refine S_iload_n X dX10_weigh_44 rfl rfl ?_
        refine S_icmp_ge (tgt := 58) X dX10_weigh_45 (by decide) (by omega) (by omega) (fun c_48 => ?_) (fun c_48 => ?_)
        ·
          exact S_vret X (nle rfl) (nle rfl) dX10_weigh_58 (hPo _ (⟨_, _, _, _, _, _, _, _, _, rfl, by omega, by omega, by unfold wg; first | (rw [if_pos (by dsimp only; omega)]; done) | (rw [if_neg (by dsimp only; omega)]; done) | (exfalso; omega)⟩))
        ·
          refine S_aload_n X dX10_weigh_48 rfl rfl ?_
          refine S_iload_n X dX10_weigh_49 rfl rfl ?_
          refine S_put X fpX10_51_9 0 rfl FT_i dX10_weigh_50 ?_
          refine S_w (ws' := [(oK, ob 9 (uF (uF fK 1 (iv ro)) 2 (iv (le + 1)))), (oP, ob 4 (uF (uF (uF fP 6 (iv pl)) 7 (iv n)) 8 (iv mk))), (aA, ar 1206 A2_31), (aT, ar 180 T2_32), (aW, ar 6 W2_33), (aS, ar 30 S2_34), (oS, ob 5 fS), (aB, ar 6 B), (aF, ar 6 Fo), (aH, ar 6 Ho), (aL, ar 6 Lt)]) (by simp only [List.set]; rw [uF_same (k := 2)]) ?_
          refine S_aload_n X dX10_weigh_53 rfl rfl ?_
          refine S_iload_n X dX10_weigh_54 rfl rfl ?_
          refine S_put X fpX10_48_9 0 rfl FT_i dX10_weigh_55 ?_
          refine S_w (ws' := [(oK, ob 9 (uF (uF fK 1 (iv re)) 2 (iv (le + 1)))), (oP, ob 4 (uF (uF (uF fP 6 (iv pl)) 7 (iv n)) 8 (iv mk))), (aA, ar 1206 A2_31), (aT, ar 180 T2_32), (aW, ar 6 W2_33), (aS, ar 30 S2_34), (oS, ob 5 fS), (aB, ar 6 B), (aF, ar 6 Fo), (aH, ar 6 Ho), (aL, ar 6 Lt)]) (by simp only [List.set]; rw [uF_mv (j := 2) (k := 1) (by decide), uF_same (k := 1)]) ?_
          exact S_vret X (nle rfl) (nle rfl) dX10_weigh_58 (hPo _ (⟨_, _, _, _, _, _, _, _, _, rfl, by omega, by omega, by unfold wg; first | (rw [if_pos (by dsimp only; omega)]; done) | (rw [if_neg (by dsimp only; omega)]; done) | (exfalso; omega)⟩))
      ·
        subst hz_42
        subst hu_43
        refine ⟨rfl, ?_⟩
        refine S_w (ws' := [(oK, ob 9 (uF (uF fK 1 (iv ro)) 2 (iv le))), (oP, ob 4 (uF (uF (uF fP 6 (iv pl)) 7 (iv n)) 8 (iv mk))), (aA, ar 1206 A2_38), (aT, ar 180 T2_39), (aW, ar 6 W2_40), (aS, ar 30 S2_41), (oS, ob 5 fS), (aB, ar 6 B), (aF, ar 6 Fo), (aH, ar 6 Ho), (aL, ar 6 Lt)]) rfl ?_
        refine S_goto (tgt := 42) X dX10_weigh_38 (by decide) ?_
        refine S_istore_n X dX10_weigh_42 rfl (nle rfl) ?_
        refine S_iload_n X dX10_weigh_43 rfl rfl ?_
        refine S_iload_n X dX10_weigh_44 rfl rfl ?_
        refine S_icmp_ge (tgt := 58) X dX10_weigh_45 (by decide) (by omega) (by omega) (fun c_49 => ?_) (fun c_49 => ?_)
        ·
          exact S_vret X (nle rfl) (nle rfl) dX10_weigh_58 (hPo _ (⟨_, _, _, _, _, _, _, _, _, rfl, by omega, by omega, by unfold wg; first | (rw [if_pos (by dsimp only; omega)]; done) | (rw [if_neg (by dsimp only; omega)]; done) | (exfalso; omega)⟩))
        ·
          refine S_aload_n X dX10_weigh_48 rfl rfl ?_
          refine S_iload_n X dX10_weigh_49 rfl rfl ?_
          refine S_put X fpX10_51_9 0 rfl FT_i dX10_weigh_50 ?_
          refine S_w (ws' := [(oK, ob 9 (uF (uF fK 1 (iv ro)) 2 (iv (WO pl n ec mk Fo Ho B Lt)))), (oP, ob 4 (uF (uF (uF fP 6 (iv pl)) 7 (iv n)) 8 (iv mk))), (aA, ar 1206 A2_38), (aT, ar 180 T2_39), (aW, ar 6 W2_40), (aS, ar 30 S2_41), (oS, ob 5 fS), (aB, ar 6 B), (aF, ar 6 Fo), (aH, ar 6 Ho), (aL, ar 6 Lt)]) (by simp only [List.set]; rw [uF_same (k := 2)]) ?_
          refine S_aload_n X dX10_weigh_53 rfl rfl ?_
          refine S_iload_n X dX10_weigh_54 rfl rfl ?_
          refine S_put X fpX10_48_9 0 rfl FT_i dX10_weigh_55 ?_
          refine S_w (ws' := [(oK, ob 9 (uF (uF fK 1 (iv re)) 2 (iv (WO pl n ec mk Fo Ho B Lt)))), (oP, ob 4 (uF (uF (uF fP 6 (iv pl)) 7 (iv n)) 8 (iv mk))), (aA, ar 1206 A2_38), (aT, ar 180 T2_39), (aW, ar 6 W2_40), (aS, ar 30 S2_41), (oS, ob 5 fS), (aB, ar 6 B), (aF, ar 6 Fo), (aH, ar 6 Ho), (aL, ar 6 Lt)]) (by simp only [List.set]; rw [uF_mv (j := 2) (k := 1) (by decide), uF_same (k := 1)]) ?_
          exact S_vret X (nle rfl) (nle rfl) dX10_weigh_58 (hPo _ (⟨_, _, _, _, _, _, _, _, _, rfl, by omega, by omega, by unfold wg; first | (rw [if_pos (by dsimp only; omega)]; done) | (rw [if_neg (by dsimp only; omega)]; done) | (exfalso; omega)⟩))
def C_X10_choose (l : Launch) (K : Nat) (d : Nat) : Prop := ∀ (oK : Nat) (fK : Nat → AV) (ro : Int) (le : Int) (kB : Nat) (Bh : Int → Int) (fP : Nat → AV) (fS : Nat → AV) (pl : Int) (n : Int) (ec : Int) (mk : Int) (oP : Nat) (oS : Nat) (aA : Nat) (aT : Nat) (aW : Nat) (aS : Nat) (aB : Nat) (aF : Nat) (aH : Nat) (aL : Nat) (Ab : Int → Int) (Tm : Int → Int) (Wq : Int → Int) (Sp : Int → Int) (B : Int → Int) (Fo : Int → Int) (Ho : Int → Int) (Lt : Int → Int) (p0 : Int) (n0 : Int) (k0 : Int) (da : Int) (vi : Int) (re : Int) (di : Int), (fK 3 = rv oP) → (fK 4 = rv oS) → (fK 6 = rv kB) → (fP 0 = rv aA) → (fP 1 = rv aT) → (fP 2 = rv aW) → (fP 3 = rv aS) → (fS 0 = iv pl) → (fS 1 = iv n) → (fS 2 = iv ec) → (fS 3 = iv mk) → (fS 4 = rv aB) → (fS 5 = rv aF) → (fS 6 = rv aH) → (fS 7 = rv aL) → (okS pl n ec Fo Ho B Lt) → (da + 1 = (K : Int) ∧ K ≤ 6) → (0 ≤ vi ∧ vi ≤ 63) → (0 ≤ re ∧ re ≤ mxd K) → (di = mxd K + 1) → (∀ x d, 0 ≤ x → x < pl → -1 ≤ d → d ≤ 5 → 1 ≤ Bh (x * 7 + d + 1) ∧ Bh (x * 7 + d + 1) ≤ 199) → (∀ x, 0 ≤ x → x < pl → zAnd vi (zShl 1 x) = 0 → B x = Bh (x * 7 + (-1) + 1)) → (0 ≤ ro ∧ ro ≤ 1000000000) → (0 ≤ le ∧ le ≤ 1000000000) → AMv l yX10_choose cX10_choose 9 d 0 0 [rv oK, iv da, iv vi, iv re, iv di] [(oK, ob 9 (uF (uF fK 1 (iv ro)) 2 (iv le))), (oP, ob 4 (uF (uF (uF fP 6 (iv p0)) 7 (iv n0)) 8 (iv k0))), (aA, ar 1206 Ab), (aT, ar 180 Tm), (aW, ar 6 Wq), (aS, ar 30 Sp), (oS, ob 5 fS), (aB, ar 6 B), (aF, ar 6 Fo), (aH, ar 6 Ho), (aL, ar 6 Lt), (kB, ar 42 Bh)] (fun u => ∃ r2 : Int, ∃ l2 : Int, ∃ p9 : Int, ∃ n9 : Int, ∃ k9 : Int, ∃ A2 : Int → Int, ∃ T2 : Int → Int, ∃ W2 : Int → Int, ∃ S2 : Int → Int, ∃ B2 : Int → Int, u = [(oK, ob 9 (uF (uF fK 1 (iv r2)) 2 (iv l2))), (oP, ob 4 (uF (uF (uF fP 6 (iv p9)) 7 (iv n9)) 8 (iv k9))), (aA, ar 1206 A2), (aT, ar 180 T2), (aW, ar 6 W2), (aS, ar 30 S2), (oS, ob 5 fS), (aB, ar 6 B2), (aF, ar 6 Fo), (aH, ar 6 Ho), (aL, ar 6 Lt), (kB, ar 42 Bh)] ∧ (0 ≤ r2 ∧ r2 ≤ 1000000000) ∧ (0 ≤ l2 ∧ l2 ≤ 1000000000) ∧ (r2, l2) = cwN pl n ec mk Fo Ho Lt Bh K da vi re di B (ro, le) ∧ B2 = B)
set_option maxHeartbeats 4000000 in
set_option maxRecDepth 100000 in
theorem kX10_choose (l : Launch) (K : Nat) (d : Nat) (hnx : ∀ K2 : Nat, K = K2 + 1 → C_X10_choose l K2 (d + 3)) : C_X10_choose l K (d + 4) := by
  intro oK fK ro le kB Bh fP fS pl n ec mk oP oS aA aT aW aS aB aF aH aL Ab Tm Wq Sp B Fo Ho Lt p0 n0 k0 da vi re di hf0 hf1 hf2 hf3 hf4 hf5 hf6 hf7 hf8 hf9 hf10 hf11 hf12 hf13 hf14 hok hda hvi hre hdi hbh hvT hro hle
  refine AMv.of2 rfl (nle rfl) ?_
  intro D G A p e s m args below meth c Po hPo hnm X
  have hpl := hok.2.1
  have hpl1 := hok.1
  have hn1 := hok.2.2.1
  have hn2 := hok.2.2.2.1
  have hec := hok.2.2.2.2
  have hmx := mxd_le K
  refine S_iload_n X dX10_choose_0 rfl rfl ?_
  refine S_if_ge (tgt := 10) X dX10_choose_1 (by decide) (by omega) (fun c_1 => ?_) (fun c_1 => ?_)
  ·
    obtain ⟨K2, hK2⟩ : ∃ K2, K = K2 + 1 := ⟨K - 1, by omega⟩
    have hmq := mxd_q (K := K2) (by omega)
    rw [← hK2] at hmq
    refine S_aload_n X dX10_choose_10 rfl rfl ?_
    refine S_get X fgX10_22_9 0 rfl hf1 dX10_choose_11 ?_
    refine S_get X fgX10_40_5 6 rfl hf11 dX10_choose_14 ?_
    refine S_astore X dX10_choose_17 (nle rfl) ?_
    refine S_iload_n X dX10_choose_19 rfl rfl ?_
    refine S_iload_n X dX10_choose_20 rfl rfl ?_
    refine S_ineg X dX10_choose_21 ?_
    refine S_iand X dX10_choose_22 ?_
    refine S_istore X dX10_choose_23 (nle rfl) ?_
    refine S_iconst X dX10_choose_25 ?_
    refine S_istore X dX10_choose_26 (nle rfl) ?_
    have lp28_1 : ∀ (N : Nat) (i : Int) (r1 : Int) (l1 : Int) (Bv : Int → Int) (Aw : Int → Int) (Tw : Int → Int) (Ww : Int → Int) (Sw : Int → Int) (pw : Int) (nw : Int) (kw : Int) (L : Nat → Option AV), 0 ≤ i ∧ i ≤ pl → 0 ≤ r1 ∧ r1 ≤ 1000000000 → 0 ≤ l1 ∧ l1 ≤ 1000000000 → Bv = B → foldI (fun i q => if zShl 1 i = zAnd vi (-vi) then cwN pl n ec mk Fo Ho Lt Bh K2 (da - 1) vi (re + i * di) (di * 10) B q else if zAnd vi (zShl 1 i) = 0 then cwN pl n ec mk Fo Ho Lt Bh K2 (da - 1) (zOr vi (zShl 1 i)) (re + i * di) (di * 10) (uZ B i (Bh (i * 7 + da + 1))) q else q) i (ro, le) = (r1, l1) → L 0 = some (rv oK) → L 1 = some (iv da) → L 2 = some (iv vi) → L 3 = some (iv re) → L 4 = some (iv di) → L 5 = some (rv aB) → L 6 = some (iv (zAnd vi (-vi))) → L 7 = some (iv i) → pl + 1 - i < (N : Int) → S_ p l e (rmD (d + 4) 0 0) s m args below meth c (MQ below (QcV D G A Po) args s 0 0 A) D G A 9 0 0 28 L [] [(oK, ob 9 (uF (uF fK 1 (iv r1)) 2 (iv l1))), (oP, ob 4 (uF (uF (uF fP 6 (iv pw)) 7 (iv nw)) 8 (iv kw))), (aA, ar 1206 Aw), (aT, ar 180 Tw), (aW, ar 6 Ww), (aS, ar 30 Sw), (oS, ob 5 fS), (aB, ar 6 Bv), (aF, ar 6 Fo), (aH, ar 6 Ho), (aL, ar 6 Lt), (kB, ar 42 Bh)] := by
      intro N
      induction N with
      | zero =>
        intro i r1 l1 Bv Aw Tw Ww Sw pw nw kw L28 hi hr1 hr2 hBv hfo hL28_0 hL28_1 hL28_2 hL28_3 hL28_4 hL28_5 hL28_6 hL28_7 hN28
        exfalso; omega
      | succ N ih28 =>
        intro i r1 l1 Bv Aw Tw Ww Sw pw nw kw L28 hi hr1 hr2 hBv hfo hL28_0 hL28_1 hL28_2 hL28_3 hL28_4 hL28_5 hL28_6 hL28_7 hN28
        refine S_iload X dX10_choose_28 hL28_7 ?_
        refine S_aload_n X dX10_choose_30 rfl hL28_0 ?_
        refine S_get X fgX10_22_9 0 rfl hf1 dX10_choose_31 ?_
        refine S_get X fgX10_36_5 6 rfl hf7 dX10_choose_34 ?_
        refine S_icmp_ge (tgt := 144) X dX10_choose_37 (by decide) (by omega) (by omega) (fun c_2 => ?_) (fun c_2 => ?_)
        ·
          exact S_vret X (nle rfl) (nle rfl) dX10_choose_144 (hPo _ (⟨_, _, _, _, _, _, _, _, _, _, rfl, hr1, hr2, by have h9 := hfo; rw [show i = pl by omega] at h9; rw [hK2, cwN, h9], hBv⟩))
        ·
          have hz1 := zShl_r 1 i
          have hz2 := zAnd_r vi (-vi)
          have hz3 := zAnd_r vi (zShl 1 i)
          have hd5 : i * di ≤ 5 * di := Int.mul_le_mul_of_nonneg_right (by omega) (by omega)
          have hd0 : 0 ≤ i * di := Int.mul_nonneg (by omega) (by omega)
          have hmd : 0 ≤ re + i * di ∧ re + i * di ≤ mxd K2 := by omega
          have hmd2 : di * 10 = mxd K2 + 1 := by omega
          refine S_iconst X dX10_choose_40 ?_
          refine S_iload X dX10_choose_41 hL28_7 ?_
          refine S_ishl X dX10_choose_43 ?_
          refine S_istore X dX10_choose_44 (nle rfl) ?_
          refine S_iload X dX10_choose_46 rfl ?_
          refine S_iload X dX10_choose_48 hL28_6 ?_
          refine S_icmp_ne (tgt := 76) X dX10_choose_50 (by decide) (by omega) (by omega) (fun c_3 => ?_) (fun c_3 => ?_)
          ·
            refine S_iload_n X dX10_choose_76 rfl hL28_2 ?_
            refine S_iload X dX10_choose_77 rfl ?_
            refine S_iand X dX10_choose_79 ?_
            refine S_if_ne (tgt := 138) X dX10_choose_80 (by decide) (by omega) (fun c_4 => ?_) (fun c_4 => ?_)
            ·
              refine S_iinc X dX10_choose_138 (nle rfl) hL28_7 ?_
              refine S_goto (tgt := 28) X dX10_choose_141 (by decide) ?_
              exact ih28 (i + 1) r1 l1 Bv Aw Tw Ww Sw pw nw kw _ (by omega) (by first | exact h91 | exact hr1) (by first | exact h92 | exact hr2) (by first | exact hBv | exact h93.trans hBv | (rw [h93, hBv, ← hb7]; exact uZ_back)) (by rw [foldI_S (by omega), hfo]; first | (rw [if_pos (by omega)]; exact h94.symm) | (rw [if_neg (by omega), if_pos (by omega)]; exact h94.symm) | rw [if_neg (by omega), if_neg (by omega)]) hL28_0 hL28_1 hL28_2 hL28_3 hL28_4 hL28_5 hL28_6 rfl (by omega)
            ·
              refine S_aload X dX10_choose_83 hL28_5 ?_
              refine S_iload X dX10_choose_85 hL28_7 ?_
              refine S_aload_n X dX10_choose_87 rfl hL28_0 ?_
              refine S_get X fgX10_15_9 0 rfl hf2 dX10_choose_88 ?_
              refine S_iload X dX10_choose_91 hL28_7 ?_
              refine S_iload_n X dX10_choose_93 rfl hL28_1 ?_
              have hb9 := hbh i da (by omega) (by omega) (by omega) (by omega)
              have hor := vmI_or hvi (i := i) ⟨by omega, by omega⟩
              refine S_calli X (kX10_slot l i da (by omega) (by omega)) (is := []) rfl (run_S X lkX10_43 (is := []) (avs := [iv i, iv da]) (rest := [rv kB, iv i, rv aB]) rfl rfl (nle rfl) ⟨by simp only [rmD]; omega, by simp only [rmD]; omega⟩ ⟨nle rfl, nle rfl⟩ dX10_choose_94 (by decide) rfl) (fun z_7 u_5 hp_6 => ?_)
              obtain ⟨hz_8, hu_9⟩ := hp_6
              subst hz_8
              subst hu_9
              refine ⟨rfl, ?_⟩
              refine S_w (ws' := [(oK, ob 9 (uF (uF fK 1 (iv r1)) 2 (iv l1))), (oP, ob 4 (uF (uF (uF fP 6 (iv pw)) 7 (iv nw)) 8 (iv kw))), (aA, ar 1206 Aw), (aT, ar 180 Tw), (aW, ar 6 Ww), (aS, ar 30 Sw), (oS, ob 5 fS), (aB, ar 6 Bv), (aF, ar 6 Fo), (aH, ar 6 Ho), (aL, ar 6 Lt), (kB, ar 42 Bh)]) rfl ?_
              refine S_iald X 11 rfl (by omega) (by omega) (nle rfl) dX10_choose_97 ?_
              refine S_iast X 7 rfl (by omega) (by omega) (nle rfl) dX10_choose_98 ?_
              refine S_w (ws' := [(oK, ob 9 (uF (uF fK 1 (iv r1)) 2 (iv l1))), (oP, ob 4 (uF (uF (uF fP 6 (iv pw)) 7 (iv nw)) 8 (iv kw))), (aA, ar 1206 Aw), (aT, ar 180 Tw), (aW, ar 6 Ww), (aS, ar 30 Sw), (oS, ob 5 fS), (aB, ar 6 (uZ Bv i (Bh (i * 7 + da + 1)))), (aF, ar 6 Fo), (aH, ar 6 Ho), (aL, ar 6 Lt), (kB, ar 42 Bh)]) rfl ?_
              refine S_aload_n X dX10_choose_99 rfl hL28_0 ?_
              refine S_iload_n X dX10_choose_100 rfl hL28_1 ?_
              refine S_iconst X dX10_choose_101 ?_
              refine S_isub X dX10_choose_102 ?_
              refine S_iload_n X dX10_choose_103 rfl hL28_2 ?_
              refine S_iload X dX10_choose_104 rfl ?_
              refine S_ior X dX10_choose_106 ?_
              refine S_iload_n X dX10_choose_107 rfl hL28_3 ?_
              refine S_iload X dX10_choose_108 hL28_7 ?_
              refine S_iload X dX10_choose_110 hL28_4 ?_
              refine S_imul X dX10_choose_112 ?_
              refine S_iadd X dX10_choose_113 ?_
              refine S_iload X dX10_choose_114 hL28_4 ?_
              refine S_bipush X dX10_choose_116 rfl ?_
              refine S_imul X dX10_choose_118 ?_
              refine S_callv X ((hnx K2 hK2) oK fK r1 l1 kB Bh fP fS pl n ec mk oP oS aA aT aW aS aB aF aH aL Aw Tw Ww Sw (uZ Bv i (Bh (i * 7 + da + 1))) Fo Ho Lt pw nw kw (da - 1) (zOr vi (zShl 1 i)) (re + (i * di)) (di * 10) hf0 hf1 hf2 hf3 hf4 hf5 hf6 hf7 hf8 hf9 hf10 hf11 hf12 hf13 hf14 (hok.b2 (fun x h0 h1 => by unfold uZ; split; exact hb9; rw [hBv]; exact (hok.2.2.2.2.2.2 x h0 h1).2.2.1)) (by omega) hor.1 hmd hmd2 hbh (fun x x0 x1 hx => by have h9 := (hor.2 x x0 (by omega)).mp hx; rw [hBv, uZ_ne h9.1]; exact hvT x x0 x1 h9.2) (by omega) (by omega)) (is := [0, 1, 2, 3, 4, 5, 6, 7, 8, 9, 10, 11]) rfl (run_S X lkX10_54 (is := [0, 1, 2, 3, 4, 5, 6, 7, 8, 9, 10, 11]) (avs := [rv oK, iv (da - 1), iv (zOr vi (zShl 1 i)), iv (re + (i * di)), iv (di * 10)]) (rest := []) rfl rfl (nle rfl) ⟨by simp only [rmD]; omega, by simp only [rmD]; omega⟩ ⟨nle rfl, nle rfl⟩ dX10_choose_119 (by decide) rfl) (fun u_10 hp_11 => ?_)
              obtain ⟨r2_13, l2_14, p9_15, n9_16, k9_17, A2_18, T2_19, W2_20, S2_21, B2_22, hu_24, h1_25, h2_26, hcw_27, hB2_28⟩ := hp_11
              subst hu_24
              refine ⟨rfl, ?_⟩
              refine S_w (ws' := [(oK, ob 9 (uF (uF fK 1 (iv r2_13)) 2 (iv l2_14))), (oP, ob 4 (uF (uF (uF fP 6 (iv p9_15)) 7 (iv n9_16)) 8 (iv k9_17))), (aA, ar 1206 A2_18), (aT, ar 180 T2_19), (aW, ar 6 W2_20), (aS, ar 30 S2_21), (oS, ob 5 fS), (aB, ar 6 B2_22), (aF, ar 6 Fo), (aH, ar 6 Ho), (aL, ar 6 Lt), (kB, ar 42 Bh)]) rfl ?_
              have h91 := h1_25
              have h92 := h2_26
              have h94 := hcw_27
              have h93 := hB2_28
              rw [hBv] at h94
              refine S_aload X dX10_choose_122 hL28_5 ?_
              refine S_iload X dX10_choose_124 hL28_7 ?_
              refine S_aload_n X dX10_choose_126 rfl hL28_0 ?_
              refine S_get X fgX10_15_9 0 rfl hf2 dX10_choose_127 ?_
              refine S_iload X dX10_choose_130 hL28_7 ?_
              refine S_iconst X dX10_choose_132 ?_
              have hb8 := hbh i (-1) (by omega) (by omega) (by omega) (by omega)
              have hb7 := hvT i (by omega) (by omega) (by omega)
              refine S_calli X (kX10_slot l i (-1) (by omega) (by omega)) (is := []) rfl (run_S X lkX10_43 (is := []) (avs := [iv i, iv (-1)]) (rest := [rv kB, iv i, rv aB]) rfl rfl (nle rfl) ⟨by simp only [rmD]; omega, by simp only [rmD]; omega⟩ ⟨nle rfl, nle rfl⟩ dX10_choose_133 (by decide) rfl) (fun z_31 u_29 hp_30 => ?_)
              obtain ⟨hz_32, hu_33⟩ := hp_30
              subst hz_32
              subst hu_33
              refine ⟨rfl, ?_⟩
              refine S_w (ws' := [(oK, ob 9 (uF (uF fK 1 (iv r2_13)) 2 (iv l2_14))), (oP, ob 4 (uF (uF (uF fP 6 (iv p9_15)) 7 (iv n9_16)) 8 (iv k9_17))), (aA, ar 1206 A2_18), (aT, ar 180 T2_19), (aW, ar 6 W2_20), (aS, ar 30 S2_21), (oS, ob 5 fS), (aB, ar 6 B2_22), (aF, ar 6 Fo), (aH, ar 6 Ho), (aL, ar 6 Lt), (kB, ar 42 Bh)]) rfl ?_
              refine S_iald X 11 rfl (by omega) (by omega) (nle rfl) dX10_choose_136 ?_
              refine S_iast X 7 rfl (by omega) (by omega) (nle rfl) dX10_choose_137 ?_
              refine S_w (ws' := [(oK, ob 9 (uF (uF fK 1 (iv r2_13)) 2 (iv l2_14))), (oP, ob 4 (uF (uF (uF fP 6 (iv p9_15)) 7 (iv n9_16)) 8 (iv k9_17))), (aA, ar 1206 A2_18), (aT, ar 180 T2_19), (aW, ar 6 W2_20), (aS, ar 30 S2_21), (oS, ob 5 fS), (aB, ar 6 (uZ B2_22 i (Bh (i * 7 + (-1) + 1)))), (aF, ar 6 Fo), (aH, ar 6 Ho), (aL, ar 6 Lt), (kB, ar 42 Bh)]) rfl ?_
              refine S_iinc X dX10_choose_138 (nle rfl) hL28_7 ?_
              refine S_goto (tgt := 28) X dX10_choose_141 (by decide) ?_
              exact ih28 (i + 1) r2_13 l2_14 (uZ B2_22 i (Bh (i * 7 + (-1) + 1))) A2_18 T2_19 W2_20 S2_21 p9_15 n9_16 k9_17 _ (by omega) (by first | exact h91 | exact hr1) (by first | exact h92 | exact hr2) (by first | exact hBv | exact h93.trans hBv | (rw [h93, hBv, ← hb7]; exact uZ_back)) (by rw [foldI_S (by omega), hfo]; first | (rw [if_pos (by omega)]; exact h94.symm) | (rw [if_neg (by omega), if_pos (by omega)]; exact h94.symm) | rw [if_neg (by omega), if_neg (by omega)]) hL28_0 hL28_1 hL28_2 hL28_3 hL28_4 hL28_5 hL28_6 rfl (by omega)
          ·
            refine S_aload_n X dX10_choose_53 rfl hL28_0 ?_
            refine S_iload_n X dX10_choose_54 rfl hL28_1 ?_
            refine S_iconst X dX10_choose_55 ?_
            refine S_isub X dX10_choose_56 ?_
            refine S_iload_n X dX10_choose_57 rfl hL28_2 ?_
            refine S_iload_n X dX10_choose_58 rfl hL28_3 ?_
            refine S_iload X dX10_choose_59 hL28_7 ?_
            refine S_iload X dX10_choose_61 hL28_4 ?_
            refine S_imul X dX10_choose_63 ?_
            refine S_iadd X dX10_choose_64 ?_
            refine S_iload X dX10_choose_65 hL28_4 ?_
            refine S_bipush X dX10_choose_67 rfl ?_
            refine S_imul X dX10_choose_69 ?_
            refine S_callv X ((hnx K2 hK2) oK fK r1 l1 kB Bh fP fS pl n ec mk oP oS aA aT aW aS aB aF aH aL Aw Tw Ww Sw Bv Fo Ho Lt pw nw kw (da - 1) vi (re + (i * di)) (di * 10) hf0 hf1 hf2 hf3 hf4 hf5 hf6 hf7 hf8 hf9 hf10 hf11 hf12 hf13 hf14 (by rw [hBv]; exact hok) (by omega) hvi hmd hmd2 hbh (by rw [hBv]; exact hvT) (by omega) (by omega)) (is := [0, 1, 2, 3, 4, 5, 6, 7, 8, 9, 10, 11]) rfl (run_S X lkX10_54 (is := [0, 1, 2, 3, 4, 5, 6, 7, 8, 9, 10, 11]) (avs := [rv oK, iv (da - 1), iv vi, iv (re + (i * di)), iv (di * 10)]) (rest := []) rfl rfl (nle rfl) ⟨by simp only [rmD]; omega, by simp only [rmD]; omega⟩ ⟨nle rfl, nle rfl⟩ dX10_choose_70 (by decide) rfl) (fun u_34 hp_35 => ?_)
            obtain ⟨r2_37, l2_38, p9_39, n9_40, k9_41, A2_42, T2_43, W2_44, S2_45, B2_46, hu_48, h1_49, h2_50, hcw_51, hB2_52⟩ := hp_35
            subst hu_48
            refine ⟨rfl, ?_⟩
            refine S_w (ws' := [(oK, ob 9 (uF (uF fK 1 (iv r2_37)) 2 (iv l2_38))), (oP, ob 4 (uF (uF (uF fP 6 (iv p9_39)) 7 (iv n9_40)) 8 (iv k9_41))), (aA, ar 1206 A2_42), (aT, ar 180 T2_43), (aW, ar 6 W2_44), (aS, ar 30 S2_45), (oS, ob 5 fS), (aB, ar 6 B2_46), (aF, ar 6 Fo), (aH, ar 6 Ho), (aL, ar 6 Lt), (kB, ar 42 Bh)]) rfl ?_
            have h91 := h1_49
            have h92 := h2_50
            have h94 := hcw_51
            have h93 := hB2_52
            rw [hBv] at h94
            refine S_goto (tgt := 138) X dX10_choose_73 (by decide) ?_
            refine S_iinc X dX10_choose_138 (nle rfl) hL28_7 ?_
            refine S_goto (tgt := 28) X dX10_choose_141 (by decide) ?_
            exact ih28 (i + 1) r2_37 l2_38 B2_46 A2_42 T2_43 W2_44 S2_45 p9_39 n9_40 k9_41 _ (by omega) (by first | exact h91 | exact hr1) (by first | exact h92 | exact hr2) (by first | exact hBv | exact h93.trans hBv | (rw [h93, hBv, ← hb7]; exact uZ_back)) (by rw [foldI_S (by omega), hfo]; first | (rw [if_pos (by omega)]; exact h94.symm) | (rw [if_neg (by omega), if_pos (by omega)]; exact h94.symm) | rw [if_neg (by omega), if_neg (by omega)]) hL28_0 hL28_1 hL28_2 hL28_3 hL28_4 hL28_5 hL28_6 rfl (by omega)
    exact lp28_1 (Int.toNat (pl + 1 - 0) + 1) 0 ro le B Ab Tm Wq Sp p0 n0 k0 _ (by omega) (hro) (hle) (rfl) (foldI_0) rfl rfl rfl rfl rfl rfl rfl rfl (by omega)
  ·
    refine S_aload_n X dX10_choose_4 rfl rfl ?_
    refine S_iload_n X dX10_choose_5 rfl rfl ?_
    refine S_callv X (kX10_weigh l oK fK ro le fP fS pl n ec mk oP oS aA aT aW aS aB aF aH aL Ab Tm Wq Sp B Fo Ho Lt p0 n0 k0 re hf0 hf1 hf3 hf4 hf5 hf6 hf7 hf8 hf9 hf10 hf11 hf12 hf13 hf14 hok (by omega) (by omega) (by omega)) (is := [0, 1, 2, 3, 4, 5, 6, 7, 8, 9, 10]) rfl (run_V X lkX10_72 0 rfl rfl (is := [0, 1, 2, 3, 4, 5, 6, 7, 8, 9, 10]) (avs := [iv re]) (rest := []) rfl rfl (nle rfl) ⟨by simp only [rmD]; omega, by simp only [rmD]; omega⟩ ⟨nle rfl, nle rfl⟩ dX10_choose_6 (by decide) rfl) (fun u_53 hp_54 => ?_)
    obtain ⟨r2_56, l2_57, p9_58, n9_59, k9_60, A2_61, T2_62, W2_63, S2_64, hu_66, h1_67, h2_68, hwg_69⟩ := hp_54
    subst hu_66
    refine ⟨rfl, ?_⟩
    refine S_w (ws' := [(oK, ob 9 (uF (uF fK 1 (iv r2_56)) 2 (iv l2_57))), (oP, ob 4 (uF (uF (uF fP 6 (iv p9_58)) 7 (iv n9_59)) 8 (iv k9_60))), (aA, ar 1206 A2_61), (aT, ar 180 T2_62), (aW, ar 6 W2_63), (aS, ar 30 S2_64), (oS, ob 5 fS), (aB, ar 6 B), (aF, ar 6 Fo), (aH, ar 6 Ho), (aL, ar 6 Lt), (kB, ar 42 Bh)]) rfl ?_
    have h91 := h1_67
    have h92 := h2_68
    have h9w := hwg_69
    exact S_vret X (nle rfl) (nle rfl) dX10_choose_9 (hPo _ (⟨_, _, _, _, _, _, _, _, _, _, rfl, h91, h92, by rw [show K = 0 by omega, cwN]; exact h9w, rfl⟩))
theorem cho_all (l : Launch) : ∀ K : Nat, C_X10_choose l K (4 + K) := by
  intro K
  induction K with
  | zero => exact kX10_choose l 0 0 (fun K2 h => by omega)
  | succ K ih =>
    rw [show 4 + (K + 1) = (K + 1) + 4 by omega]
    refine kX10_choose l (K + 1) (K + 1) (fun K2 h => ?_)
    cases h
    rw [show K + 1 + 3 = 4 + K by omega]
    exact ih
