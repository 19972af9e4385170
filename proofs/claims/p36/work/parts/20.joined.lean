/- 99.zring.lean.txt -/
section pt_99zring
/-! RING AND HEAD: six steps and the set of the next six; as many steps as players and a set until one comes again -/
theorem pigeon : ∀ (n : Nat) (f : Nat → Int), (∀ k, k ≤ n → 0 ≤ f k ∧ f k < (n : Int)) → ∃ i j, i < j ∧ j ≤ n ∧ f i = f j := by
  intro n
  induction n with
  | zero => intro f h; have := h 0 (Nat.le_refl 0); omega
  | succ n ih =>
    intro f h
    by_cases hx : ∃ i, i ≤ n ∧ f i = f (n + 1)
    · obtain ⟨i, h1, h2⟩ := hx
      exact ⟨i, n + 1, by omega, by omega, h2⟩
    · have hne : ∀ i, i ≤ n → f i ≠ f (n + 1) := fun i hi e => hx ⟨i, hi, e⟩
      obtain ⟨i, j, a1, a2, a3⟩ := ih (fun k => if f k = (n : Int) then f (n + 1) else f k) (fun k hk => by
        have h1 := h k (by omega)
        have h2 := h (n + 1) (Nat.le_refl _)
        have h3 := hne k hk
        show 0 ≤ (if f k = (n : Int) then f (n + 1) else f k) ∧ (if f k = (n : Int) then f (n + 1) else f k) < (n : Int)
        by_cases c : f k = (n : Int)
        · rw [if_pos c]; omega
        · rw [if_neg c]; omega)
      have hi := hne i (by omega)
      have hj := hne j a2
      have a4 : (if f i = (n : Int) then f (n + 1) else f i) = (if f j = (n : Int) then f (n + 1) else f j) := a3
      refine ⟨i, j, a1, by omega, ?_⟩
      by_cases c1 : f i = (n : Int) <;> by_cases c2 : f j = (n : Int)
      · rw [c1, c2]
      · rw [if_pos c1, if_neg c2] at a4; exact absurd a4.symm hj
      · rw [if_neg c1, if_pos c2] at a4; exact absurd a4 hi
      · rw [if_neg c1, if_neg c2] at a4; exact a4
section RG
variable {F F2 : Int → Int} {pl p : Int}
theorem itN_in (hF : ∀ p, 0 ≤ p → p < pl → -1 ≤ F p ∧ F p < pl) {x : Int} (hx : -1 ≤ x ∧ x < pl) : ∀ k : Nat, -1 ≤ itN F k x ∧ itN F k x < pl := by
  intro k
  induction k with
  | zero => exact hx
  | succ k ih =>
    show -1 ≤ (if itN F k x = -1 then -1 else F (itN F k x)) ∧ (if itN F k x = -1 then -1 else F (itN F k x)) < pl
    by_cases c : itN F k x = -1
    · rw [if_pos c]; omega
    · rw [if_neg c]; exact hF _ (by omega) ih.2
theorem itN_e {x : Int} {k : Nat} (h : itN F k x = -1) : ∀ m : Nat, itN F (k + m) x = -1 := by
  intro m
  induction m with
  | zero => exact h
  | succ m ih =>
    show (if itN F (k + m) x = -1 then -1 else F (itN F (k + m) x)) = -1
    rw [if_pos ih]
theorem itN_c (hF : ∀ p, 0 ≤ p → p < pl → -1 ≤ F p ∧ F p < pl) (e : ∀ p, 0 ≤ p → p < pl → F p = F2 p) {x : Int} (hx : -1 ≤ x ∧ x < pl) : ∀ k : Nat, itN F2 k x = itN F k x := by
  intro k
  induction k with
  | zero => rfl
  | succ k ih =>
    have h2 := itN_in hF hx k
    show (if itN F2 k x = -1 then -1 else F2 (itN F2 k x)) = (if itN F k x = -1 then -1 else F (itN F k x))
    rw [ih]
    by_cases c : itN F k x = -1
    · rw [if_pos c, if_pos c]
    · rw [if_neg c, if_neg c, e _ (by omega) h2.2]
theorem rgN_c (hF : ∀ p, 0 ≤ p → p < pl → -1 ≤ F p ∧ F p < pl) (e : ∀ p, 0 ≤ p → p < pl → F p = F2 p) : ∀ (k : Nat) (s x : Int), -1 ≤ x ∧ x < pl → rgN F2 k s x = rgN F k s x := by
  intro k
  induction k with
  | zero => intro s x _; rfl
  | succ k ih =>
    intro s x hx
    show (if x = -1 ∨ zMk s x = true then s else rgN F2 k (zOr s (zShl 1 x)) (F2 x)) = (if x = -1 ∨ zMk s x = true then s else rgN F k (zOr s (zShl 1 x)) (F x))
    by_cases c : x = -1 ∨ zMk s x = true
    · rw [if_pos c, if_pos c]
    · have c2 : x ≠ -1 := fun q => c (Or.inl q)
      rw [if_neg c, if_neg c, ← e x (by omega) hx.2]
      exact ih _ _ (hF x (by omega) hx.2)
theorem hdN_c (hF : ∀ p, 0 ≤ p → p < pl → -1 ≤ F p ∧ F p < pl) (e : ∀ p, 0 ≤ p → p < pl → F p = F2 p) : ∀ (k : Nat) (x : Int), 0 ≤ x ∧ x < pl → hdN F2 k x = hdN F k x := by
  intro k
  induction k with
  | zero => intro x _; rfl
  | succ k ih =>
    intro x hx
    show (if F2 x = -1 then x else hdN F2 k (F2 x)) = (if F x = -1 then x else hdN F k (F x))
    rw [← e x hx.1 hx.2]
    have h2 := hF x hx.1 hx.2
    by_cases c : F x = -1
    · rw [if_pos c, if_pos c]
    · rw [if_neg c, if_neg c]
      exact ih _ ⟨by omega, h2.2⟩
theorem aRingR_c (hF : ∀ p, 0 ≤ p → p < pl → -1 ≤ F p ∧ F p < pl) (e : ∀ p, 0 ≤ p → p < pl → F p = F2 p) : aRingR pl F2 p = aRingR pl F p := by
  unfold aRingR
  by_cases c : 0 ≤ p ∧ p < pl
  · rw [if_pos c, if_pos c]
    unfold itI
    have h2 := itN_in hF (x := p) ⟨by omega, c.2⟩ pl.toNat
    rw [itN_c hF e ⟨by omega, c.2⟩, rgN_c hF e _ _ _ h2]
  · rw [if_neg c, if_neg c]
theorem aHeadR_c (hF : ∀ p, 0 ≤ p → p < pl → -1 ≤ F p ∧ F p < pl) (e : ∀ p, 0 ≤ p → p < pl → F p = F2 p) : aHeadR pl F2 p = aHeadR pl F p := by
  unfold aHeadR
  by_cases c : 0 ≤ p ∧ p < pl
  · rw [if_pos c, if_pos c, hdN_c hF e _ _ c]
  · rw [if_neg c, if_neg c]
/-- who has not come to nobody in as many steps as there are players never does: two of the steps meet -/
theorem it_meet (hF : ∀ p, 0 ≤ p → p < pl → -1 ≤ F p ∧ F p < pl) (hp : 0 ≤ p ∧ p < pl) (h : itN F pl.toNat p ≠ -1) : ∃ i j : Nat, i < j ∧ j ≤ pl.toNat ∧ ∀ m : Nat, itN F (j + m) p = itN F (i + m) p := by
  have h1 : ∀ k : Nat, k ≤ pl.toNat → 0 ≤ itN F k p ∧ itN F k p < ((pl.toNat : Nat) : Int) := fun k hk => by
    have h2 := itN_in hF (x := p) ⟨by omega, hp.2⟩ k
    have h3 : itN F k p ≠ -1 := fun q => h (by
      have h4 := itN_e q (pl.toNat - k)
      rw [show k + (pl.toNat - k) = pl.toNat by omega] at h4
      exact h4)
    omega
  obtain ⟨i, j, a1, a2, a3⟩ := pigeon pl.toNat (fun k => itN F k p) h1
  refine ⟨i, j, a1, a2, fun m => ?_⟩
  induction m with
  | zero => exact a3.symm
  | succ m ih =>
    show (if itN F (j + m) p = -1 then -1 else F (itN F (j + m) p)) = (if itN F (i + m) p = -1 then -1 else F (itN F (i + m) p))
    rw [ih]
theorem it_nev (hF : ∀ p, 0 ≤ p → p < pl → -1 ≤ F p ∧ F p < pl) (hp : 0 ≤ p ∧ p < pl) (h : itN F pl.toNat p ≠ -1) : ∀ k : Nat, itN F k p ≠ -1 := by
  obtain ⟨i, j, a1, a2, a3⟩ := it_meet hF hp h
  have key : ∀ t k : Nat, k ≤ t → itN F k p ≠ -1 := by
    intro t
    induction t with
    | zero =>
      intro k hk q
      have h4 := itN_e q (pl.toNat - k)
      rw [show k + (pl.toNat - k) = pl.toNat by omega] at h4
      exact h h4
    | succ t ih =>
      intro k hk
      by_cases c : k ≤ pl.toNat
      · intro q
        have h4 := itN_e q (pl.toNat - k)
        rw [show k + (pl.toNat - k) = pl.toNat by omega] at h4
        exact h h4
      · have h5 := a3 (k - j)
        rw [show j + (k - j) = k by omega] at h5
        rw [h5]
        exact ih _ (by omega)
  exact fun k => key k k (Nat.le_refl k)
theorem bo_all : ∀ s : Fin 64, ∀ x y : Fin 6, zMk (zOr (s.val : Int) (zShl 1 (x.val : Int))) (y.val : Int) = (zMk (s.val : Int) (y.val : Int) || decide (x.val = y.val)) := by decide +kernel
theorem bo {s x y : Int} (hs : 0 ≤ s ∧ s < 64) (hx : 0 ≤ x ∧ x ≤ 5) (hy : 0 ≤ y ∧ y ≤ 5) : zMk (zOr s (zShl 1 x)) y = true ↔ zMk s y = true ∨ x = y := by
  have h2 := bo_all ⟨s.toNat, by omega⟩ ⟨x.toNat, by omega⟩ ⟨y.toNat, by omega⟩
  dsimp only at h2
  rw [toNat_c hs.1, toNat_c hx.1, toNat_c hy.1] at h2
  rw [h2, Bool.or_eq_true, decide_eq_true_iff]
  constructor
  · rintro (q | q)
    · exact Or.inl q
    · exact Or.inr (by omega)
  · rintro (q | q)
    · exact Or.inl q
    · exact Or.inr (by omega)
theorem be_all : ∀ s t : Fin 64, (∀ y : Fin 6, zMk (s.val : Int) (y.val : Int) = zMk (t.val : Int) (y.val : Int)) → s = t := by decide +kernel
theorem b_eq {s t : Int} (hs : 0 ≤ s ∧ s < 64) (ht : 0 ≤ t ∧ t < 64) (h : ∀ y, 0 ≤ y → y ≤ 5 → (zMk s y = true ↔ zMk t y = true)) : s = t := by
  have h2 := be_all ⟨s.toNat, by omega⟩ ⟨t.toNat, by omega⟩ (fun y => by
    dsimp only
    rw [toNat_c hs.1, toNat_c ht.1]
    exact Bool.eq_iff_iff.mpr (h _ (by omega) (by omega)))
  have h3 : s.toNat = t.toNat := congrArg Fin.val h2
  omega
theorem b_0 : ∀ y : Fin 6, zMk 0 (y.val : Int) = false := by decide +kernel
/-- the class's set -/
theorem rc_set {q : Nat → Int} (hs : ∀ k, q (k + 1) = F (q k)) (hq : ∀ k, 0 ≤ q k ∧ q k ≤ 5) : ∀ (k : Nat) (b : Int) (N : Nat), 0 ≤ b ∧ b < 64 → (0 ≤ rcN F k b (q N) ∧ rcN F k b (q N) < 64) ∧ ∀ y, 0 ≤ y → y ≤ 5 → (zMk (rcN F k b (q N)) y = true ↔ zMk b y = true ∨ ∃ m, m < k ∧ q (N + m) = y) := by
  intro k
  induction k with
  | zero => exact fun b N hb => ⟨hb, fun y _ _ => ⟨fun h => Or.inl h, fun h => h.elim id (fun ⟨m, h1, _⟩ => absurd h1 (Nat.not_lt_zero m))⟩⟩
  | succ k ih =>
    intro b N hb
    have h1 := hq N
    have e : rcN F (k + 1) b (q N) = rcN F k (zOr b (zShl 1 (q N))) (q (N + 1)) := by
      show (if q N = -1 then b else rcN F k (zOr b (zShl 1 (q N))) (F (q N))) = _
      rw [if_neg (by omega), hs]
    have hr := (sb6_all ⟨b.toNat, by omega⟩ ⟨(q N).toNat, by omega⟩).2
    dsimp only at hr
    rw [toNat_c hb.1, toNat_c h1.1] at hr
    obtain ⟨c1, c2⟩ := ih (zOr b (zShl 1 (q N))) (N + 1) ⟨hr.1, hr.2.1⟩
    rw [e]
    refine ⟨c1, fun y y0 y1 => ?_⟩
    rw [c2 y y0 y1, bo hb h1 ⟨y0, y1⟩]
    constructor
    · rintro ((h | h) | ⟨m, m1, m2⟩)
      · exact Or.inl h
      · exact Or.inr ⟨0, by omega, h⟩
      · exact Or.inr ⟨m + 1, by omega, by rw [← m2]; congr 1; omega⟩
    · rintro (h | ⟨m, m1, m2⟩)
      · exact Or.inl (Or.inl h)
      · cases m with
        | zero => exact Or.inl (Or.inr m2)
        | succ m => exact Or.inr ⟨m, by omega, by rw [← m2]; congr 1; omega⟩
/-- the reference's set -/
theorem rg_set {q : Nat → Int} {n : Nat} (hs : ∀ k, q (k + 1) = F (q k)) (hq : ∀ k, 0 ≤ q k ∧ q k ≤ 5) : ∀ (k : Nat) (s : Int) (N : Nat), n ≤ N → 0 ≤ s ∧ s < 64 → nb6 s < (k : Int) → (∀ y, 0 ≤ y → y ≤ 5 → zMk s y = true → ∃ m, n ≤ m ∧ m < N ∧ q m = y) → (∀ m, n ≤ m → m < N → zMk s (q m) = true) → (0 ≤ rgN F k s (q N) ∧ rgN F k s (q N) < 64) ∧ ∀ y, 0 ≤ y → y ≤ 5 → (zMk (rgN F k s (q N)) y = true ↔ ∃ m, n ≤ m ∧ q m = y) := by
  intro k
  induction k with
  | zero =>
    intro s N hN hs2 hk h1 h2
    have hr := (sb6_all ⟨s.toNat, by omega⟩ ⟨0, by omega⟩).2.2.2
    dsimp only at hr
    rw [toNat_c hs2.1] at hr
    exact absurd hk (by omega)
  | succ k ih =>
    intro s N hN hs2 hk h1 h2
    have hn := hq N
    by_cases c : zMk s (q N) = true
    · have e : rgN F (k + 1) s (q N) = s := by
        show (if q N = -1 ∨ zMk s (q N) = true then s else rgN F k (zOr s (zShl 1 (q N))) (F (q N))) = s
        rw [if_pos (Or.inr c)]
      rw [e]
      refine ⟨hs2, fun y y0 y1 => ⟨fun h => ?_, fun ⟨m, m1, m2⟩ => ?_⟩⟩
      · obtain ⟨m, m1, m2, m3⟩ := h1 y y0 y1 h
        exact ⟨m, m1, m3⟩
      · obtain ⟨m0, x1, x2, x3⟩ := h1 (q N) hn.1 hn.2 c
        have per : ∀ t : Nat, q (N + t) = q (m0 + t) := by
          intro t
          induction t with
          | zero => exact x3.symm
          | succ t it => rw [show N + (t + 1) = N + t + 1 by omega, show m0 + (t + 1) = m0 + t + 1 by omega, hs, hs, it]
        have key : ∀ t m : Nat, n ≤ m → m ≤ t → zMk s (q m) = true := by
          intro t
          induction t with
          | zero => intro m a1 a2; exact (by
              by_cases hm : m < N
              · exact h2 m a1 hm
              · have h5 := per (m - N)
                rw [show N + (m - N) = m by omega] at h5
                rw [h5]
                exact absurd x2 (by omega))
          | succ t it =>
            intro m a1 a2
            by_cases hm : m < N
            · exact h2 m a1 hm
            · have h5 := per (m - N)
              rw [show N + (m - N) = m by omega] at h5
              rw [h5]
              exact it _ (by omega) (by omega)
        rw [← m2]
        exact key m m m1 (Nat.le_refl m)
    · have e : rgN F (k + 1) s (q N) = rgN F k (zOr s (zShl 1 (q N))) (q (N + 1)) := by
        show (if q N = -1 ∨ zMk s (q N) = true then s else rgN F k (zOr s (zShl 1 (q N))) (F (q N))) = _
        rw [if_neg (fun h => h.elim (fun h => by omega) c), hs]
      obtain ⟨b1, b2, b3⟩ := sb6 hs2 hn (by cases hz : zMk s (q N) with | true => exact absurd hz c | false => rfl)
      rw [e]
      refine ih _ (N + 1) (by omega) b2 (by omega) (fun y y0 y1 h => ?_) (fun m m1 m2 => ?_)
      · rcases (bo hs2 hn ⟨y0, y1⟩).mp h with h | h
        · obtain ⟨m, m1, m2, m3⟩ := h1 y y0 y1 h
          exact ⟨m, m1, by omega, m3⟩
        · exact ⟨N, hN, by omega, h⟩
      · by_cases hm : m < N
        · exact (bo hs2 hn (hq m)).mpr (Or.inl (h2 m m1 hm))
        · have hm2 : m = N := by omega
          rw [hm2]
          exact (bo hs2 hn hn).mpr (Or.inr rfl)
theorem ring_eq (hF : ∀ p, 0 ≤ p → p < pl → -1 ≤ F p ∧ F p < pl) (h6 : pl ≤ 6) : aRingC pl F p = aRingR pl F p := by
  unfold aRingC aRingR
  by_cases c : 0 ≤ p ∧ p < pl
  · rw [if_pos c, if_pos c]
    unfold itI
    show rcN F 6 0 (itN F 6 p) = rgN F 7 0 (itN F pl.toNat p)
    by_cases h : itN F pl.toNat p = -1
    · have h2 := itN_e h (6 - pl.toNat)
      rw [show pl.toNat + (6 - pl.toNat) = 6 by omega] at h2
      rw [h, h2]
      rfl
    · have nev := it_nev hF c h
      obtain ⟨i, j, a1, a2, a3⟩ := it_meet hF c h
      have hq : ∀ k, 0 ≤ itN F k p ∧ itN F k p ≤ 5 := fun k => by
        have h3 := itN_in hF (x := p) ⟨by omega, c.2⟩ k
        have h4 := nev k
        omega
      have hs : ∀ k, itN F (k + 1) p = F (itN F k p) := fun k => by
        show (if itN F k p = -1 then -1 else F (itN F k p)) = _
        rw [if_neg (nev k)]
      obtain ⟨r1, r2⟩ := rc_set (q := fun k => itN F k p) hs hq 6 0 6 ⟨by omega, by omega⟩
      obtain ⟨t1, t2⟩ := rg_set (q := fun k => itN F k p) (n := pl.toNat) hs hq 7 0 pl.toNat (Nat.le_refl _) ⟨by omega, by omega⟩ (by decide +kernel) (fun y y0 y1 hy => by
        have h3 := b_0 ⟨y.toNat, by omega⟩
        dsimp only at h3
        rw [toNat_c y0] at h3
        rw [h3] at hy
        cases hy) (fun m m1 m2 => absurd m2 (by omega))
      refine b_eq r1 t1 (fun y y0 y1 => ?_)
      rw [r2 y y0 y1, t2 y y0 y1]
      have per : ∀ k, i ≤ k → itN F (k + (j - i)) p = itN F k p := fun k hk => by
        have h5 := a3 (k - i)
        rw [show j + (k - i) = k + (j - i) by omega, show i + (k - i) = k by omega] at h5
        exact h5
      constructor
      · rintro (h3 | ⟨m, m1, m2⟩)
        · have h4 := b_0 ⟨y.toNat, by omega⟩
          dsimp only at h4
          rw [toNat_c y0] at h4
          rw [h4] at h3
          cases h3
        · exact ⟨6 + m, by omega, m2⟩
      · rintro ⟨m, m1, m2⟩
        right
        have up : ∀ t k : Nat, i ≤ k → 6 ≤ k + t → ∃ k2, 6 ≤ k2 ∧ itN F k2 p = itN F k p := by
          intro t
          induction t with
          | zero => exact fun k hk h7 => ⟨k, h7, rfl⟩
          | succ t it =>
            intro k hk h7
            obtain ⟨k2, z1, z2⟩ := it (k + (j - i)) (by omega) (by omega)
            exact ⟨k2, z1, by rw [z2, per k hk]⟩
        have down : ∀ t k : Nat, 6 ≤ k → k ≤ t → ∃ k2, 6 ≤ k2 ∧ k2 < 6 + (j - i) ∧ itN F k2 p = itN F k p := by
          intro t
          induction t with
          | zero => exact fun k hk h7 => absurd hk (by omega)
          | succ t it =>
            intro k hk h7
            by_cases h8 : k < 6 + (j - i)
            · exact ⟨k, hk, h8, rfl⟩
            · obtain ⟨k2, z1, z2, z3⟩ := it (k - (j - i)) (by omega) (by omega)
              have h9 := per (k - (j - i)) (by omega)
              rw [show k - (j - i) + (j - i) = k by omega] at h9
              exact ⟨k2, z1, z2, by rw [z3, h9]⟩
        obtain ⟨k2, z1, z2⟩ := up 6 m (by omega) (by omega)
        obtain ⟨k3, w1, w2, w3⟩ := down k2 k2 z1 (Nat.le_refl _)
        refine ⟨k3 - 6, by omega, ?_⟩
        show itN F (6 + (k3 - 6)) p = y
        rw [show 6 + (k3 - 6) = k3 by omega, w3, z2]
        exact m2
  · rw [if_neg c, if_neg c]
theorem itN_sh {x : Int} (hx : x ≠ -1) : ∀ k : Nat, itN F (k + 1) x = itN F k (F x) := by
  intro k
  induction k with
  | zero =>
    show (if x = -1 then -1 else F x) = F x
    rw [if_neg hx]
  | succ k ih =>
    show (if itN F (k + 1) x = -1 then -1 else F (itN F (k + 1) x)) = (if itN F k (F x) = -1 then -1 else F (itN F k (F x)))
    rw [ih]
theorem hd_yes : ∀ (k : Nat) (x : Int), x ≠ -1 → itN F k x = -1 → ∀ m : Nat, hcN F (k + m) x = hdN F k x := by
  intro k
  induction k with
  | zero => intro x hx h; exact absurd h hx
  | succ k ih =>
    intro x hx h m
    rw [itN_sh hx] at h
    rw [show k + 1 + m = (k + m) + 1 by omega]
    show (if F x = -1 then x else hcN F (k + m) (F x)) = (if F x = -1 then x else hdN F k (F x))
    by_cases c : F x = -1
    · rw [if_pos c, if_pos c]
    · rw [if_neg c, if_neg c, ih (F x) c h m]
theorem hd_no : ∀ (k : Nat) (x : Int), x ≠ -1 → itN F k x ≠ -1 → hdN F k x = -1 := by
  intro k
  induction k with
  | zero => intro x hx h; rfl
  | succ k ih =>
    intro x hx h
    rw [itN_sh hx] at h
    have c : F x ≠ -1 := fun q => h (by
      rw [q]
      have h2 := itN_e (F := F) (x := -1) (k := 0) rfl k
      rwa [Nat.zero_add] at h2)
    show (if F x = -1 then x else hdN F k (F x)) = -1
    rw [if_neg c]
    exact ih _ c h
theorem head_eq (hF : ∀ p, 0 ≤ p → p < pl → -1 ≤ F p ∧ F p < pl) (h6 : pl ≤ 6) : aHeadC pl F p = aHeadR pl F p := by
  unfold aHeadC aHeadR
  by_cases c : 0 ≤ p ∧ p < pl
  · rw [if_pos c]
    unfold itI
    by_cases h : itN F pl.toNat p = -1
    · have h2 := itN_e h (6 - pl.toNat)
      rw [show pl.toNat + (6 - pl.toNat) = 6 by omega] at h2
      rw [if_pos ⟨c.1, c.2, h2⟩]
      have h3 := hd_yes pl.toNat p (by omega) h (6 - pl.toNat)
      rw [show pl.toNat + (6 - pl.toNat) = 6 by omega] at h3
      exact h3
    · rw [if_neg (fun q => it_nev hF c h 6 q.2.2)]
      exact (hd_no _ _ (by omega) h).symm
  · rw [if_neg c, if_neg (fun q => c ⟨q.1, q.2.1⟩)]
end RG
section RH
variable {a b : Nat → Nat} {v : Nat → Int} {g : Nat → Int → Int} {R : Int → Int → Int} {ds : List LwS} {ys : Nat → LwY} {w : Nat → Int} {h : Nat → Int → Int} {z y y1 : Int} {u u2 : EW}
theorem Inv.fo (hI : Inv v g ds ys w h) : ∀ p, 0 ≤ p → p < v 13 → -1 ≤ g 39 p ∧ g 39 p < v 13 := fun p a0 a1 => (hI.2.2.1.1.2.2.2.2.2.2 p a0 a1).1
theorem ans_ring (hI : Inv v g ds ys w h) (h1 : QX11_ring a v g R ds ys y1 z u) (h2 : QX12_ring b w h y1 y u2) : z = y := by
  obtain ⟨hz, -⟩ := h1
  obtain ⟨hy, -⟩ := h2
  rw [hz, hy, hI.es.1, aRingR_c hI.fo (fun p a0 a1 => (hI.te p a0 a1).1)]
  exact ring_eq hI.fo hI.pl6.2
theorem ans_head (hI : Inv v g ds ys w h) (h1 : QX11_head a v g R ds ys y1 z u) (h2 : QX12_head b w h y1 y u2) : z = y := by
  obtain ⟨hz, -⟩ := h1
  obtain ⟨hy, -⟩ := h2
  rw [hz, hy, hI.es.1, aHeadR_c hI.fo (fun p a0 a1 => (hI.te p a0 a1).1)]
  exact head_eq hI.fo hI.pl6.2
end RH
end pt_99zring
