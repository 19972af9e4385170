/-! THE SAME ANSWERS OUT OF TABLES THAT AGREE ON THE PLAYERS -/
section ZA
variable {pl n ec mk : Int} {Fo Ho B Lt F2 H2 B2 L2 : Int → Int}
theorem bS_c (h : okS pl n ec Fo Ho B Lt) (e : teq pl Fo Ho B Lt F2 H2 B2 L2) (b p : Int) (hb : 0 ≤ b) (h0 : 0 ≤ p) (h1 : p < pl) : bF ec Fo Ho B b p = bF ec F2 H2 B2 b p :=
  bF_c h.2.2.2.2.1 (fun p a0 a1 => ⟨(e p a0 a1).1, (e p a0 a1).2.1, (e p a0 a1).2.2.1⟩) (fun p a0 a1 => (h.2.2.2.2.2.2 p a0 a1).1) b hb b hb (Int.le_refl b) p h0 h1
theorem rkI_c {g f : Int → Int} {p : Int} (hp : 0 ≤ pl) (e : ∀ y, 0 ≤ y → y < pl → g y = f y) (h0 : 0 ≤ p) (h1 : p < pl) : rkI g pl p = rkI f pl p := smI_c pl hp (fun o a0 a1 => by
  show (if g o < g p ∨ g p = g o ∧ o < p then (1 : Int) else 0) = if f o < f p ∨ f p = f o ∧ o < p then 1 else 0
  rw [e o a0 a1, e p h0 h1])
theorem apI_c {g f : Int → Int} {p : Int} (hp : 0 ≤ pl) (e : ∀ y, 0 ≤ y → y < pl → g y = f y) (h0 : 0 ≤ p) (h1 : p < pl) : apI g pl p = apI f pl p := smI_c pl hp (fun o a0 a1 => by
  show ((g o - g p).natAbs : Int) = ((f o - f p).natAbs : Int)
  rw [e o a0 a1, e p h0 h1])
theorem aTime_c (h : okZ pl n ec Fo Ho B Lt) (e : teq pl Fo Ho B Lt F2 H2 B2 L2) {p b w : Int} : aTime pl n ec mk Fo Ho B Lt p b w = aTime pl n ec mk F2 H2 B2 L2 p b w := by
  unfold aTime
  by_cases c : (0 ≤ p ∧ p < pl) ∧ (0 ≤ b ∧ b < n) ∧ (0 ≤ w ∧ w ≤ 2)
  · have hs := h.s (by omega)
    rw [if_pos c, if_pos c, tS_c hs e b p c.2.1.1 c.1.1 c.1.2, wS_c hs e b p c.2.1.1 c.1.1 c.1.2, bS_c hs e b p c.2.1.1 c.1.1 c.1.2]
  · rw [if_neg c, if_neg c]
theorem aSpread_c (h : okZ pl n ec Fo Ho B Lt) (e : teq pl Fo Ho B Lt F2 H2 B2 L2) {b : Int} : aSpread pl n ec mk Fo Ho B Lt b = aSpread pl n ec mk F2 H2 B2 L2 b := by
  unfold aSpread
  by_cases c : 1 ≤ pl ∧ 0 ≤ b ∧ b < n
  · rw [if_pos c, if_pos c, sS_c (h.s c.1) e b c.2.1]
  · rw [if_neg c, if_neg c]
theorem aWorst_c (h : okZ pl n ec Fo Ho B Lt) (e : teq pl Fo Ho B Lt F2 H2 B2 L2) {w : Int} : aWorst pl n ec mk Fo Ho B Lt w = aWorst pl n ec mk F2 H2 B2 L2 w := by
  unfold aWorst
  by_cases c : 1 ≤ pl ∧ (w = 0 ∨ w = 1)
  · have hn := h.2.2.1
    rw [if_pos c, if_pos c, WO_c (h.s c.1) e, amI_c n (by omega) (fun y h0 h1 => sS_c (h.s c.1) e y h0)]
  · rw [if_neg c, if_neg c]
theorem aParts_c (h : okZ pl n ec Fo Ho B Lt) (e : teq pl Fo Ho B Lt F2 H2 B2 L2) {lim : Int} : aParts pl n ec mk Fo Ho B Lt lim = aParts pl n ec mk F2 H2 B2 L2 lim := by
  unfold aParts
  by_cases c : 1 ≤ pl
  · have hn := h.2.2.1
    rw [if_pos c, if_pos c, fsI_c n (by omega) (fun y h0 h1 => sS_c (h.s c) e y h0)]
  · rw [if_neg c, if_neg c]
theorem aLast_c (h : okZ pl n ec Fo Ho B Lt) (e : teq pl Fo Ho B Lt F2 H2 B2 L2) {b : Int} : aLast pl n ec mk Fo Ho B Lt b = aLast pl n ec mk F2 H2 B2 L2 b := by
  unfold aLast
  by_cases c : 1 ≤ pl ∧ 0 ≤ b ∧ b < n
  · rw [if_pos c, if_pos c, amI_c pl (by omega) (fun y h0 h1 => tS_c (h.s c.1) e b y c.2.1 h0 h1)]
  · rw [if_neg c, if_neg c]
theorem aPlace_c (h : okZ pl n ec Fo Ho B Lt) (e : teq pl Fo Ho B Lt F2 H2 B2 L2) {b i : Int} : aPlace pl n ec mk Fo Ho B Lt b i = aPlace pl n ec mk F2 H2 B2 L2 b i := by
  unfold aPlace
  by_cases c : 1 ≤ pl ∧ 0 ≤ b ∧ b < n
  · rw [if_pos c, if_pos c]
    refine fiI_c pl (by omega) (fun p h0 h1 => ?_)
    show decide (rkI (tS pl ec mk Fo Ho B Lt b) pl p = i) = decide (rkI (tS pl ec mk F2 H2 B2 L2 b) pl p = i)
    rw [rkI_c (by omega) (fun y h0 h1 => tS_c (h.s c.1) e b y c.2.1 h0 h1) h0 h1]
  · rw [if_neg c, if_neg c]
theorem aOver_c (h : okZ pl n ec Fo Ho B Lt) (e : teq pl Fo Ho B Lt F2 H2 B2 L2) {i j : Int} : aOver pl n ec mk Fo Ho B Lt i j = aOver pl n ec mk F2 H2 B2 L2 i j := by
  unfold aOver
  by_cases c : (0 ≤ i ∧ i < pl) ∧ (0 ≤ j ∧ j < pl) ∧ i ≠ j
  · have hs := h.s (by omega)
    have hn := h.2.2.1
    rw [if_pos c, if_pos c]
    unfold ovI
    refine smI_c n (by omega) (fun b h0 h1 => ?_)
    have E : ∀ b, 0 ≤ b → ∀ p, 0 ≤ p → p < pl → tS pl ec mk Fo Ho B Lt b p = tS pl ec mk F2 H2 B2 L2 b p := fun b hb p p0 p1 => tS_c hs e b p hb p0 p1
    by_cases hb : 1 ≤ b
    · show (if 1 ≤ b ∧ cmI (tS pl ec mk Fo Ho B Lt b i) (tS pl ec mk Fo Ho B Lt b j) ≠ 0 ∧ cmI (tS pl ec mk Fo Ho B Lt b i) (tS pl ec mk Fo Ho B Lt b j) ≠ cmI (tS pl ec mk Fo Ho B Lt (b - 1) i) (tS pl ec mk Fo Ho B Lt (b - 1) j) then (1 : Int) else 0) = _
      rw [E b h0 i c.1.1 c.1.2, E b h0 j c.2.1.1 c.2.1.2, E (b - 1) (by omega) i c.1.1 c.1.2, E (b - 1) (by omega) j c.2.1.1 c.2.1.2]
    · show (if 1 ≤ b ∧ _ then (1 : Int) else 0) = if 1 ≤ b ∧ _ then (1 : Int) else 0
      rw [if_neg (fun q => hb q.1), if_neg (fun q => hb q.1)]
  · rw [if_neg c, if_neg c]
theorem aMiddle_c (h : okZ pl n ec Fo Ho B Lt) (e : teq pl Fo Ho B Lt F2 H2 B2 L2) : aMiddle pl n ec mk Fo Ho B Lt = aMiddle pl n ec mk F2 H2 B2 L2 := by
  unfold aMiddle
  by_cases c : 1 ≤ pl
  · have hn := h.2.2.1
    rw [if_pos c, if_pos c]
    refine amI_c pl (by omega) (fun p h0 h1 => ?_)
    show -apI (tS pl ec mk Fo Ho B Lt (n - 1)) pl p = -apI (tS pl ec mk F2 H2 B2 L2 (n - 1)) pl p
    rw [apI_c (by omega) (fun y h0 h1 => tS_c (h.s c) e (n - 1) y (by omega) h0 h1) h0 h1]
  · rw [if_neg c, if_neg c]
theorem aEnds_c (h : okZ pl n ec Fo Ho B Lt) (e : teq pl Fo Ho B Lt F2 H2 B2 L2) {w : Int} : aEnds pl n ec mk Fo Ho B Lt w = aEnds pl n ec mk F2 H2 B2 L2 w := by
  unfold aEnds
  by_cases c : 1 ≤ pl ∧ (w = 0 ∨ w = 1)
  · have hn := h.2.2.1
    rw [if_pos c, if_pos c, mxI_c pl (by omega) (fun y h0 h1 => tS_c (h.s c.1) e (n - 1) y (by omega) h0 h1), sS_c (h.s c.1) e (n - 1) (by omega)]
  · rw [if_neg c, if_neg c]
theorem aStray_c (h : okZ pl n ec Fo Ho B Lt) (e : teq pl Fo Ho B Lt F2 H2 B2 L2) {p q : Int} : aStray pl n ec Fo Ho B p q = aStray pl n ec F2 H2 B2 p q := by
  unfold aStray
  by_cases c : (0 ≤ p ∧ p < pl) ∧ 1 ≤ q ∧ q ≤ 99
  · have hs := h.s (by omega)
    have hn := h.2.2.1
    rw [if_pos c, if_pos c]
    unfold srI
    refine fiI_c n (by omega) (fun b h0 h1 => ?_)
    by_cases hb : 1 ≤ b
    · show decide (1 ≤ b ∧ q ≤ ((bF ec Fo Ho B b p - bF ec Fo Ho B (b - 1) p).natAbs : Int)) = decide (1 ≤ b ∧ q ≤ ((bF ec F2 H2 B2 b p - bF ec F2 H2 B2 (b - 1) p).natAbs : Int))
      rw [bS_c hs e b p h0 c.1.1 c.1.2, bS_c hs e (b - 1) p (by omega) c.1.1 c.1.2]
    · exact decide_eq_decide.mpr ⟨fun q => absurd q.1 hb, fun q => absurd q.1 hb⟩
  · rw [if_neg c, if_neg c]
theorem aDeaf_c (h : okZ pl n ec Fo Ho B Lt) (e : teq pl Fo Ho B Lt F2 H2 B2 L2) {p : Int} : aDeaf pl n ec mk Fo Ho B Lt p = aDeaf pl n ec mk F2 H2 B2 L2 p := by
  unfold aDeaf
  by_cases c : 0 ≤ p ∧ p < pl
  · rw [if_pos c, if_pos c, WO_c ((h.s (by omega)).fo (p := p) (v := -1) ⟨by omega, by omega⟩) (te_F e)]
  · rw [if_neg c, if_neg c]
theorem ldN_c (hs : okS pl n ec Fo Ho B Lt) (e : teq pl Fo Ho B Lt F2 H2 B2 L2) {p : Int} : ∀ f : Nat, (f : Int) ≤ pl → ldN pl n ec mk Fo Ho B Lt p f = ldN pl n ec mk F2 H2 B2 L2 p f := by
  have h1 := hs.1
  intro f
  induction f with
  | zero => intro _; unfold ldN; rw [WO_c (hs.fo (p := p) (v := -1) ⟨by omega, by omega⟩) (te_F e)]
  | succ f ih =>
    intro hf
    unfold ldN
    rw [ih (by omega), WO_c (hs.fo (p := p) (v := (f : Int)) ⟨by omega, by omega⟩) (te_F e)]
theorem aLeader_c (h : okZ pl n ec Fo Ho B Lt) (e : teq pl Fo Ho B Lt F2 H2 B2 L2) {p w : Int} : aLeader pl n ec mk Fo Ho B Lt p w = aLeader pl n ec mk F2 H2 B2 L2 p w := by
  unfold aLeader
  by_cases c : (0 ≤ p ∧ p < pl) ∧ (w = 0 ∨ w = 1)
  · rw [if_pos c, if_pos c]
    unfold ldI
    rw [ldN_c (h.s (by omega)) e pl.toNat (by omega)]
  · rw [if_neg c, if_neg c]
theorem ehN_c (hs : okS pl n ec Fo Ho B Lt) (e : teq pl Fo Ho B Lt F2 H2 B2 L2) : ∀ k : Nat, k ≤ 3 → ehN pl n mk Fo Ho B Lt k = ehN pl n mk F2 H2 B2 L2 k := by
  intro k
  induction k with
  | zero => intro _; unfold ehN; rw [WO_c (hs.ec (e2 := 0) ⟨by omega, by omega⟩) e]
  | succ k ih =>
    intro hk
    unfold ehN
    rw [ih (by omega), WO_c (hs.ec (e2 := (k : Int) + 1) ⟨by omega, by omega⟩) e]
theorem aEchoes_c (h : okZ pl n ec Fo Ho B Lt) (e : teq pl Fo Ho B Lt F2 H2 B2 L2) {w : Int} : aEchoes pl n mk Fo Ho B Lt w = aEchoes pl n mk F2 H2 B2 L2 w := by
  unfold aEchoes
  by_cases c : 1 ≤ pl ∧ (w = 0 ∨ w = 1)
  · rw [if_pos c, if_pos c, ehN_c (h.s c.1) e 3 (by omega)]
  · rw [if_neg c, if_neg c]
theorem rTune_c (h : okZ pl n ec Fo Ho B Lt) (e : teq pl Fo Ho B Lt F2 H2 B2 L2) {lim p w z : Int} (hr : rTune pl n ec mk Fo Ho B Lt lim p w z) : rTune pl n ec mk F2 H2 B2 L2 lim p w z := by
  rcases hr with ⟨a, b⟩ | ⟨hp, hw, hr⟩
  · exact Or.inl ⟨a, b⟩
  · have hs := h.s (by omega)
    have E : ∀ k, 0 ≤ k → k ≤ 10 → WO pl n ec mk Fo (uZ Ho p k) B Lt = WO pl n ec mk F2 (uZ H2 p k) B2 L2 := fun k a b => WO_c (hs.ho ⟨a, b⟩) (te_H e)
    have eH := (e p hp.1 hp.2).2.1
    refine Or.inr ⟨hp, hw, ?_⟩
    rcases hr with ⟨a, b⟩ | ⟨h9, a1, a2, a3, a4, a5⟩
    · exact Or.inl ⟨fun k k0 k1 => by rw [← E k k0 k1]; exact a k k0 k1, b⟩
    · refine Or.inr ⟨h9, a1, a2, by rw [← E h9 a1 a2]; exact a3, fun k k0 k1 k2 => ?_, ?_⟩
      · rw [← eH]
        exact a4 k k0 k1 (by rw [E k k0 k1]; exact k2)
      · rw [a5, E h9 a1 a2]
theorem alL_e (hs : okS pl n ec Fo Ho B Lt) (e : teq pl Fo Ho B Lt F2 H2 B2 L2) {p v : Int} (hp : 0 ≤ p ∧ p < pl) (hv : 0 ≤ v ∧ v ≤ 50) : alL pl n ec mk Fo Ho B Lt p v ↔ alL pl n ec mk F2 H2 B2 L2 p v := by
  have hn := hs.2.2.1
  have E : ∀ o, 0 ≤ o → o < pl → tS pl ec mk Fo Ho B (uZ Lt p v) (n - 1) o = tS pl ec mk F2 H2 B2 (uZ L2 p v) (n - 1) o := fun o o0 o1 => tS_c (hs.la (p := p) hv) (te_L e) (n - 1) o (by omega) o0 o1
  unfold alL
  constructor
  · intro a o o0 o1 o2
    rw [← E o o0 o1, ← E p hp.1 hp.2]
    exact a o o0 o1 o2
  · intro a o o0 o1 o2
    rw [E o o0 o1, E p hp.1 hp.2]
    exact a o o0 o1 o2
theorem rPaid_c (h : okZ pl n ec Fo Ho B Lt) (e : teq pl Fo Ho B Lt F2 H2 B2 L2) {p z : Int} (hr : rPaid pl n ec mk Fo Ho B Lt p z) : rPaid pl n ec mk F2 H2 B2 L2 p z := by
  rcases hr with ⟨a, b⟩ | ⟨hp, hr⟩
  · exact Or.inl ⟨a, b⟩
  · have hs := h.s (by omega)
    refine Or.inr ⟨hp, ?_⟩
    rcases hr with ⟨a1, a2⟩ | ⟨a1, a2, a3, a4⟩
    · exact Or.inl ⟨a1, fun v v0 v1 q => a2 v v0 v1 ((alL_e hs e hp ⟨v0, v1⟩).mpr q)⟩
    · exact Or.inr ⟨a1, a2, (alL_e hs e hp ⟨a1, a2⟩).mp a3, fun v v0 v1 q => a4 v v0 v1 ((alL_e hs e hp ⟨v0, by omega⟩).mpr q)⟩
theorem lkR_c (hs : okS pl n ec Fo Ho B Lt) (e : teq pl Fo Ho B Lt F2 H2 B2 L2) (i j : Int) : lkR pl ec Fo Ho B i j ↔ lkR pl ec F2 H2 B2 i j := by
  unfold lkR
  constructor
  · intro a k k0 k1 p p0 p1
    rw [← bS_c hs e (max 0 (i - k)) p (by omega) p0 p1, ← bS_c hs e (max 0 (j - k)) p (by omega) p0 p1]
    exact a k k0 k1 p p0 p1
  · intro a k k0 k1 p p0 p1
    rw [bS_c hs e (max 0 (i - k)) p (by omega) p0 p1, bS_c hs e (max 0 (j - k)) p (by omega) p0 p1]
    exact a k k0 k1 p p0 p1
theorem rSettle_c (h : okZ pl n ec Fo Ho B Lt) (e : teq pl Fo Ho B Lt F2 H2 B2 L2) {w z : Int} (hr : rSettle pl ec Fo Ho B w z) : rSettle pl ec F2 H2 B2 w z := by
  rcases hr with ⟨a, b⟩ | ⟨hp, hw, hr⟩
  · exact Or.inl ⟨a, b⟩
  · have E := lkR_c (h.s hp) e
    refine Or.inr ⟨hp, hw, ?_⟩
    rcases hr with ⟨a1, a2⟩ | ⟨j, i, a1, a2, a3, a4, a5, a6, a7, a8⟩
    · exact Or.inl ⟨fun j j0 j1 i i0 i1 q => a1 j j0 j1 i i0 i1 ((E i j).mpr q), a2⟩
    · exact Or.inr ⟨j, i, a1, a2, a3, a4, (E i j).mp a5, fun j2 q1 q2 i2 q3 q4 q => a6 j2 q1 q2 i2 q3 q4 ((E i2 j2).mpr q), fun i2 q1 q2 q => a7 i2 q1 q2 ((E i2 j).mpr q), a8⟩
theorem agB_c (hs : okS pl n ec Fo Ho B Lt) (e : teq pl Fo Ho B Lt F2 H2 B2 L2) {rl p f : Int} {P1 B1 T1 P2 b2 T2 : Int → Int} (hr : ∀ k, 0 ≤ k → k < rl → ((0 ≤ P1 k ∧ P1 k < pl) ∧ 0 ≤ B1 k) ∧ P2 k = P1 k ∧ b2 k = B1 k ∧ T2 k = T1 k) (hf : -1 ≤ f ∧ f < pl) : agB pl n ec mk Fo Ho B Lt rl P1 B1 T1 p f = agB pl n ec mk F2 H2 B2 L2 rl P2 b2 T2 p f := by
  unfold agB
  refine decide_eq_decide.mpr ?_
  unfold agR
  constructor
  · intro a k k0 k1
    obtain ⟨⟨c1, c2⟩, c3, c4, c5⟩ := hr k k0 k1
    have q := a k k0 k1
    rw [wS_c (hs.fo (p := p) hf) (te_F e) (B1 k) (P1 k) c2 c1.1 c1.2] at q
    rw [c3, c4, c5]
    exact q
  · intro a k k0 k1
    obtain ⟨⟨c1, c2⟩, c3, c4, c5⟩ := hr k k0 k1
    have q := a k k0 k1
    rw [c3, c4, c5] at q
    rw [wS_c (hs.fo (p := p) hf) (te_F e) (B1 k) (P1 k) c2 c1.1 c1.2]
    exact q
theorem fiB_c (hs : okS pl n ec Fo Ho B Lt) (e : teq pl Fo Ho B Lt F2 H2 B2 L2) {rl p : Int} {P1 B1 T1 P2 b2 T2 : Int → Int} (hr : ∀ k, 0 ≤ k → k < rl → ((0 ≤ P1 k ∧ P1 k < pl) ∧ 0 ≤ B1 k) ∧ P2 k = P1 k ∧ b2 k = B1 k ∧ T2 k = T1 k) : ∀ f : Nat, (f : Int) ≤ pl → fiB pl n ec mk Fo Ho B Lt rl P1 B1 T1 p f = fiB pl n ec mk F2 H2 B2 L2 rl P2 b2 T2 p f := by
  have h1 := hs.1
  intro f
  induction f with
  | zero => intro _; unfold fiB; rw [agB_c hs e hr ⟨by omega, by omega⟩]
  | succ f ih =>
    intro hf
    unfold fiB
    rw [ih (by omega), agB_c hs e hr (f := (f : Int)) ⟨by omega, by omega⟩]
theorem aFits_c (h : okZ pl n ec Fo Ho B Lt) (e : teq pl Fo Ho B Lt F2 H2 B2 L2) {rl p : Int} {P1 B1 T1 P2 b2 T2 : Int → Int} (hr : ∀ k, 0 ≤ k → k < rl → ((0 ≤ P1 k ∧ P1 k < pl) ∧ 0 ≤ B1 k) ∧ P2 k = P1 k ∧ b2 k = B1 k ∧ T2 k = T1 k) : aFits pl n ec mk Fo Ho B Lt rl P1 B1 T1 p = aFits pl n ec mk F2 H2 B2 L2 rl P2 b2 T2 p := by
  unfold aFits
  by_cases c : 0 ≤ p ∧ p < pl
  · rw [if_pos c, if_pos c, fiB_c (h.s (by omega)) e hr pl.toNat (by omega)]
  · rw [if_neg c, if_neg c]
end ZA
section ZB
variable {a b : Nat → Nat} {v : Nat → Int} {g : Nat → Int → Int} {R : Int → Int → Int} {ds : List LwS} {ys : Nat → LwY} {w : Nat → Int} {h : Nat → Int → Int} {z y y1 y2 y3 y4 y5 : Int} {u u2 : EW}
theorem Inv.te (hI : Inv v g ds ys w h) : teq (v 13) (g 39) (g 40) (g 38) (g 41) (c5 (h 20) 3) (c5 (h 20) 4) (h 23) (h 24) := fun p a0 a1 => by
  obtain ⟨-, -, ⟨k1, k2, e1, e2, e3, e4, e5, k3⟩, -⟩ := hI
  obtain ⟨x1, x2, x3, x4⟩ := k3 p a0 a1
  exact ⟨x1.symm, x2.symm, x3.symm, x4.symm⟩
theorem Inv.cz (hI : Inv v g ds ys w h) : okZ (v 13) (v 21) (v 22) (g 39) (g 40) (g 38) (g 41) := hI.2.2.1.1
theorem Inv.es (hI : Inv v g ds ys w h) : w 21 = v 13 ∧ w 28 = v 21 ∧ w 29 = v 22 ∧ w 26 = v 23 ∧ w 30 = v 0 := by
  obtain ⟨-, -, ⟨k1, k2, e1, e2, e3, e4, e5, k3⟩, -⟩ := hI
  exact ⟨e1, e2, e3, e4, e5⟩
theorem ans_time (hI : Inv v g ds ys w h) (h1 : QX11_time a v g R ds ys y1 y2 y3 z u) (h2 : QX12_time b w h y1 y2 y3 y u2) : z = y := by
  obtain ⟨e1, e2, e3, e4, e5⟩ := hI.es
  obtain ⟨_, _, _, _, _, _, _, hz, -⟩ := h1
  obtain ⟨_, _, _, hy, -⟩ := h2
  rw [hz, hy, e1, e2, e3, e4]
  exact aTime_c hI.cz hI.te
theorem ans_spread (hI : Inv v g ds ys w h) (h1 : QX11_spread a v g R ds ys y1 z u) (h2 : QX12_spread b w h y1 y u2) : z = y := by
  obtain ⟨e1, e2, e3, e4, e5⟩ := hI.es
  obtain ⟨_, _, _, _, _, _, _, hz, -⟩ := h1
  obtain ⟨_, _, _, hy, -⟩ := h2
  rw [hz, hy, e1, e2, e3, e4]
  exact aSpread_c hI.cz hI.te
theorem ans_worst (hI : Inv v g ds ys w h) (h1 : QX11_worst a v g R ds ys y1 z u) (h2 : QX12_worst b w h y1 y u2) : z = y := by
  obtain ⟨e1, e2, e3, e4, e5⟩ := hI.es
  obtain ⟨_, _, _, _, _, _, _, hz, -⟩ := h1
  obtain ⟨_, _, _, hy, -⟩ := h2
  rw [hz, hy, e1, e2, e3, e4]
  exact aWorst_c hI.cz hI.te
theorem ans_parts (hI : Inv v g ds ys w h) (h1 : QX11_parts a v g R ds ys z u) (h2 : QX12_parts b w h y u2) : z = y := by
  obtain ⟨e1, e2, e3, e4, e5⟩ := hI.es
  obtain ⟨_, _, _, _, _, _, _, hz, -⟩ := h1
  obtain ⟨_, _, _, hy, -⟩ := h2
  rw [hz, hy, e1, e2, e3, e4, e5]
  exact aParts_c hI.cz hI.te
theorem ans_last (hI : Inv v g ds ys w h) (h1 : QX11_last a v g R ds ys y1 z u) (h2 : QX12_last b w h y1 y u2) : z = y := by
  obtain ⟨e1, e2, e3, e4, e5⟩ := hI.es
  obtain ⟨_, _, _, _, _, _, _, hz, -⟩ := h1
  obtain ⟨_, _, _, hy, -⟩ := h2
  rw [hz, hy, e1, e2, e3, e4]
  exact aLast_c hI.cz hI.te
theorem ans_place (hI : Inv v g ds ys w h) (h1 : QX11_place a v g R ds ys y1 y2 z u) (h2 : QX12_place b w h y1 y2 y u2) : z = y := by
  obtain ⟨e1, e2, e3, e4, e5⟩ := hI.es
  obtain ⟨_, _, _, _, _, _, _, hz, -⟩ := h1
  obtain ⟨_, _, _, hy, -⟩ := h2
  rw [hz, hy, e1, e2, e3, e4]
  exact aPlace_c hI.cz hI.te
theorem ans_overtakes (hI : Inv v g ds ys w h) (h1 : QX11_overtakes a v g R ds ys y1 y2 z u) (h2 : QX12_overtakes b w h y1 y2 y u2) : z = y := by
  obtain ⟨e1, e2, e3, e4, e5⟩ := hI.es
  obtain ⟨_, _, _, _, _, _, _, hz, -⟩ := h1
  obtain ⟨_, _, _, hy, -⟩ := h2
  rw [hz, hy, e1, e2, e3, e4]
  exact aOver_c hI.cz hI.te
theorem ans_middle (hI : Inv v g ds ys w h) (h1 : QX11_middle a v g R ds ys z u) (h2 : QX12_middle b w h y u2) : z = y := by
  obtain ⟨e1, e2, e3, e4, e5⟩ := hI.es
  obtain ⟨_, _, _, _, _, _, _, hz, -⟩ := h1
  obtain ⟨_, _, _, hy, -⟩ := h2
  rw [hz, hy, e1, e2, e3, e4]
  exact aMiddle_c hI.cz hI.te
theorem ans_ends (hI : Inv v g ds ys w h) (h1 : QX11_ends a v g R ds ys y1 z u) (h2 : QX12_ends b w h y1 y u2) : z = y := by
  obtain ⟨e1, e2, e3, e4, e5⟩ := hI.es
  obtain ⟨_, _, _, _, _, _, _, hz, -⟩ := h1
  obtain ⟨_, _, _, hy, -⟩ := h2
  rw [hz, hy, e1, e2, e3, e4]
  exact aEnds_c hI.cz hI.te
theorem ans_stray (hI : Inv v g ds ys w h) (h1 : QX11_stray a v g R ds ys y1 y2 z u) (h2 : QX12_stray b w h y1 y2 y u2) : z = y := by
  obtain ⟨e1, e2, e3, e4, e5⟩ := hI.es
  obtain ⟨_, _, _, _, _, _, _, hz, -⟩ := h1
  obtain ⟨_, _, _, hy, -⟩ := h2
  rw [hz, hy, e1, e2, e3]
  exact aStray_c hI.cz hI.te
theorem ans_deaf (hI : Inv v g ds ys w h) (h1 : QX11_deaf a v g R ds ys y1 z u) (h2 : QX12_deaf b w h y1 y u2) : z = y := by
  obtain ⟨e1, e2, e3, e4, e5⟩ := hI.es
  obtain ⟨_, _, _, _, _, _, _, _, _, _, _, _, _, _, _, hz, -⟩ := h1
  obtain ⟨_, _, _, hy, -⟩ := h2
  rw [hz, hy, e1, e2, e3, e4]
  exact aDeaf_c hI.cz hI.te
theorem ans_leader (hI : Inv v g ds ys w h) (h1 : QX11_leader a v g R ds ys y1 y2 z u) (h2 : QX12_leader b w h y1 y2 y u2) : z = y := by
  obtain ⟨e1, e2, e3, e4, e5⟩ := hI.es
  obtain ⟨_, _, _, _, _, _, _, _, _, _, _, _, _, _, _, hz, -⟩ := h1
  obtain ⟨_, _, _, hy, -⟩ := h2
  rw [hz, hy, e1, e2, e3, e4]
  exact aLeader_c hI.cz hI.te
theorem ans_echoes (hI : Inv v g ds ys w h) (h1 : QX11_echoes a v g R ds ys y1 z u) (h2 : QX12_echoes b w h y1 y u2) : z = y := by
  obtain ⟨e1, e2, e3, e4, e5⟩ := hI.es
  obtain ⟨_, _, _, _, _, _, _, _, _, _, _, _, _, _, _, hz, -⟩ := h1
  obtain ⟨_, _, _, hy, -⟩ := h2
  rw [hz, hy, e1, e2, e4]
  exact aEchoes_c hI.cz hI.te
theorem ans_fits (hI : Inv v g ds ys w h) (h1 : QX11_fits a v g R ds ys y1 z u) (h2 : QX12_fits b w h y1 y u2) : z = y := by
  obtain ⟨e1, e2, e3, e4, e5⟩ := hI.es
  obtain ⟨_, _, _, _, _, _, _, _, _, _, _, _, _, _, _, hz, -⟩ := h1
  obtain ⟨_, _, _, hy, -⟩ := h2
  obtain ⟨k1, k2, k3⟩ := hI.2.2.2.2.2.1
  rw [hz, hy, e1, e2, e3, e4, k2]
  exact aFits_c hI.cz hI.te (fun k a0 a1 => by
    obtain ⟨x1, x2, x3, x4⟩ := k3 k a0 a1
    exact ⟨⟨x1.1, x1.2.1.1⟩, x2, x3, x4⟩)
theorem ans_paid (hI : Inv v g ds ys w h) (h1 : QX11_paid a v g R ds ys y1 z u) (h2 : QX12_paid b w h y1 y u2) : z = y := by
  obtain ⟨e1, e2, e3, e4, e5⟩ := hI.es
  obtain ⟨z9, _, _, _, _, _, _, _, _, _, _, _, _, _, _, _, hz, -, hr⟩ := h1
  obtain ⟨z8, _, _, _, hy, -, hr2⟩ := h2
  rw [e1, e2, e3, e4] at hr2
  rw [hz, hy]
  exact rPaid_u (rPaid_c hI.cz hI.te hr) hr2
theorem ans_tune (hI : Inv v g ds ys w h) (h1 : QX11_tune a v g R ds ys y1 y2 z u) (h2 : QX12_tune b w h y1 y2 y u2) : z = y := by
  obtain ⟨e1, e2, e3, e4, e5⟩ := hI.es
  obtain ⟨z9, _, _, _, _, _, _, _, _, _, _, _, _, _, _, _, hz, -, hr⟩ := h1
  obtain ⟨z8, _, _, _, hy, -, hr2⟩ := h2
  rw [e1, e2, e3, e4, e5] at hr2
  rw [hz, hy]
  exact rTune_u (rTune_c hI.cz hI.te hr) hr2
theorem ans_settle (hI : Inv v g ds ys w h) (h1 : QX11_settle a v g R ds ys y1 z u) (h2 : QX12_settle b w h y1 y u2) : z = y := by
  obtain ⟨e1, e2, e3, e4, e5⟩ := hI.es
  obtain ⟨z9, _, _, _, _, _, _, _, hz, -, hr⟩ := h1
  obtain ⟨z8, _, hy, -, hr2⟩ := h2
  rw [e1, e3] at hr2
  rw [hz, hy]
  exact rSettle_u (rSettle_c hI.cz hI.te hr) hr2
end ZB
