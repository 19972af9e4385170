/-! ODDS: by the sums of the rows, and row by row -/
theorem drF_comp {kd dr m s d b : Int} (hk : 0 ≤ kd ∧ kd ≤ 3) (hd : 0 ≤ dr ∧ dr ≤ 9) (hm : 0 ≤ m) (hs : 0 ≤ s) (h0 : 0 ≤ d) (hb : 1 ≤ b ∧ b ≤ 199) : drF kd dr 1 d (drF kd dr m s b) = drF kd dr (m + 1) (s + d) b := by
  have e1 : dr * (m + 1) = dr * m + dr := by rw [Int.mul_add, Int.mul_one]
  have e2 : dr * (s + d) = dr * s + dr * d := Int.mul_add _ _ _
  have p1 : 0 ≤ dr * m := Int.mul_nonneg hd.1 hm
  have p2 : 0 ≤ dr * s := Int.mul_nonneg hd.1 hs
  have p3 : 0 ≤ dr * d := Int.mul_nonneg hd.1 h0
  have e3 : dr * 1 = dr := Int.mul_one dr
  unfold drF
  by_cases c : kd.tmod 2 = 0
  · rw [if_pos c, if_pos c, if_pos c]
    by_cases c2 : kd < 2
    · rw [if_pos c2, if_pos c2, if_pos c2, e1, e3]; omega
    · rw [if_neg c2, if_neg c2, if_neg c2, e2]; omega
  · rw [if_neg c, if_neg c, if_neg c]
    by_cases c2 : kd < 2
    · rw [if_pos c2, if_pos c2, if_pos c2, e1, e3]; omega
    · rw [if_neg c2, if_neg c2, if_neg c2, e2]; omega
theorem drF_00 {kd dr b : Int} (hb : 1 ≤ b ∧ b ≤ 199) : drF kd dr 0 0 b = b := by
  have e : dr * 0 = 0 := Int.mul_zero dr
  unfold drF
  have e2 : (if kd < 2 then (0 : Int) else 0) = 0 := by split <;> rfl
  rw [e2, e]
  split <;> omega
theorem rwN_neg {K : Nat} {s : Int} (h : s < 0) : rwN K s = 0 := by
  cases K with
  | zero => rw [rwN, if_pos (Or.inl h)]
  | succ K => rw [rwN, if_pos (Or.inl h)]
theorem rwN_far {K : Nat} {s : Int} (h : 2 * (K : Int) < s) : rwN K s = 0 := by
  cases K with
  | zero => rw [rwN, if_pos (Or.inr (by omega))]
  | succ K => rw [rwN, if_pos (Or.inr (by omega))]
/-- three shifted sums in one -/
theorem conv3 {r f : Int → Int} (h1 : r (-1) = 0) (h2 : r (-2) = 0) : ∀ N : Int, 0 ≤ N → smI (fun j => (r j + r (j - 1) + r (j - 2)) * f j) (N + 2) = smI (fun j => r j * f (0 + j)) (N + 2) + smI (fun j => r j * f (1 + j)) (N + 1) + smI (fun j => r j * f (2 + j)) N := by
  refine upI ?_ (fun N hN ih => ?_)
  · have e0 : ∀ g : Int → Int, smI g (0 + 2) = g 0 + g 1 := fun g => by
      show (0 : Int) + g 0 + g 1 = g 0 + g 1
      omega
    have e1 : ∀ g : Int → Int, smI g (0 + 1) = g 0 := fun g => by
      show (0 : Int) + g 0 = g 0
      omega
    have e2 : ∀ g : Int → Int, smI g 0 = 0 := fun g => rfl
    rw [e0, e0, e1, e2]
    show (r 0 + r (-1) + r (-2)) * f 0 + (r 1 + r 0 + r (-1)) * f 1 = r 0 * f 0 + r 1 * f 1 + r 0 * f 1 + 0
    rw [h1, h2]
    simp only [Int.add_zero, Int.add_mul]
    omega
  · have s2 : ∀ g : Int → Int, smI g (N + 1 + 2) = smI g (N + 2) + g (N + 2) := fun g => by
      rw [show N + 1 + 2 = (N + 2) + 1 by omega]
      exact smI_S (by omega)
    have s1 : ∀ g : Int → Int, smI g (N + 1 + 1) = smI g (N + 1) + g (N + 1) := fun g => smI_S (by omega)
    have s0 : ∀ g : Int → Int, smI g (N + 1) = smI g N + g N := fun g => smI_S hN
    rw [s2, s2, s1, s0 (fun j => r j * f (2 + j)), ih]
    show _ + (r (N + 2) + r (N + 2 - 1) + r (N + 2 - 2)) * f (N + 2) = (_ + r (N + 2) * f (0 + (N + 2))) + (_ + r (N + 1) * f (1 + (N + 1))) + (_ + r N * f (2 + N))
    rw [show N + 2 - 1 = N + 1 by omega, show N + 2 - 2 = N by omega, show (0 : Int) + (N + 2) = N + 2 by omega, show 1 + (N + 1) = N + 2 by omega, show 2 + N = N + 2 by omega]
    simp only [Int.add_mul]
    omega
section ZO
variable {pl n ec mk mt : Int} {Fo Ho B Lt Kd Dr : Int → Int}
def odI (pl n ec mk : Int) (Fo Ho B Lt Kd Dr : Int → Int) (p t s : Int) : Int := if amI (tS pl ec mk Fo Ho (fun x => drF (Kd x) (Dr x) t s (B x)) Lt (n - 1)) pl = p then 1 else 0
theorem odN_e (hs : okS pl n ec Fo Ho B Lt) (hod : okDy pl mt Kd Dr) {p : Int} : ∀ (K : Nat) (m s : Int) (Bx : Int → Int), 0 ≤ m → 0 ≤ s → (∀ x, 0 ≤ x → x < pl → Bx x = drF (Kd x) (Dr x) m s (B x)) → odN pl n ec mk mt Fo Ho Lt Kd Dr p K Bx = smI (fun j => rwN K j * odI pl n ec mk Fo Ho B Lt Kd Dr p (m + K) (s + j)) (2 * (K : Int) + 1) := by
  have hp := hs.1
  have hn := hs.2.2.1
  have hok : ∀ t s, okS pl n ec Fo Ho (fun x => drF (Kd x) (Dr x) t s (B x)) Lt := fun t s => hs.bt (fun p _ _ => ⟨rfl, rfl, rfl, rfl⟩) (fun x _ _ => drF_in _ _ _ _ _)
  intro K
  induction K with
  | zero =>
    intro m s Bx hm h0 hB
    have e1 : amI (tS pl ec mk Fo Ho Bx Lt (n - 1)) pl = amI (tS pl ec mk Fo Ho (fun x => drF (Kd x) (Dr x) m s (B x)) Lt (n - 1)) pl := amI_c pl (by omega) (fun y y0 y1 => (tS_c (hok m s) (fun q q0 q1 => ⟨rfl, rfl, (hB q q0 q1).symm, rfl⟩) (n - 1) y (by omega) y0 y1).symm)
    have e2 : ∀ g : Int → Int, smI g (2 * ((0 : Nat) : Int) + 1) = g 0 := fun g => by
      show (0 : Int) + g 0 = g 0
      omega
    rw [e2]
    show (if amI (tS pl ec mk Fo Ho Bx Lt (n - 1)) pl = p then (1 : Int) else 0) = rwN 0 0 * odI pl n ec mk Fo Ho B Lt Kd Dr p (m + 0) (s + 0)
    rw [e1, Int.add_zero, Int.add_zero]
    show _ = 1 * (if amI (tS pl ec mk Fo Ho (fun x => drF (Kd x) (Dr x) m s (B x)) Lt (n - 1)) pl = p then (1 : Int) else 0)
    rw [Int.one_mul]
  | succ K ih =>
    intro m s Bx hm h0 hB
    have e3 : ∀ g : Int → Int, smI g 3 = g 0 + g 1 + g 2 := fun g => by
      show (0 : Int) + g 0 + g 1 + g 2 = g 0 + g 1 + g 2
      omega
    have st : ∀ d, 0 ≤ d → odN pl n ec mk mt Fo Ho Lt Kd Dr p K (paF Kd Dr mt (-1) d pl Bx) = smI (fun j => rwN K j * odI pl n ec mk Fo Ho B Lt Kd Dr p (m + ((K + 1 : Nat) : Int)) (s + (d + j))) (2 * (K : Int) + 1) := fun d d0 => by
      rw [ih (m + 1) (s + d) _ (by omega) (by omega) (fun x x0 x1 => by
        unfold paF
        rw [if_pos ⟨x0, x1⟩, if_neg (by omega), hB x x0 x1]
        exact drF_comp (hod.2.2 x x0 x1).1 (hod.2.2 x x0 x1).2 hm h0 d0 (hs.2.2.2.2.2.2 x x0 x1).2.2.1)]
      refine smI_c _ (by omega) (fun j j0 j1 => ?_)
      show rwN K j * odI pl n ec mk Fo Ho B Lt Kd Dr p (m + 1 + K) (s + d + j) = rwN K j * odI pl n ec mk Fo Ho B Lt Kd Dr p (m + ((K + 1 : Nat) : Int)) (s + (d + j))
      rw [show m + 1 + (K : Int) = m + ((K + 1 : Nat) : Int) by omega, show s + d + j = s + (d + j) by omega]
    show smI (fun d => odN pl n ec mk mt Fo Ho Lt Kd Dr p K (paF Kd Dr mt (-1) d pl Bx)) 3 = _
    rw [e3]
    show odN pl n ec mk mt Fo Ho Lt Kd Dr p K (paF Kd Dr mt (-1) 0 pl Bx) + odN pl n ec mk mt Fo Ho Lt Kd Dr p K (paF Kd Dr mt (-1) 1 pl Bx) + odN pl n ec mk mt Fo Ho Lt Kd Dr p K (paF Kd Dr mt (-1) 2 pl Bx) = _
    rw [st 0 (by omega), st 1 (by omega), st 2 (by omega)]
    have c3 := conv3 (r := rwN K) (f := fun j => odI pl n ec mk Fo Ho B Lt Kd Dr p (m + ((K + 1 : Nat) : Int)) (s + j)) (rwN_neg (by omega)) (rwN_neg (by omega)) (2 * (K : Int) + 1) (by omega)
    have x1 : ∀ g : Int → Int, smI (fun j => rwN K j * g j) (2 * (K : Int) + 1 + 1) = smI (fun j => rwN K j * g j) (2 * (K : Int) + 1) := fun g => by
      rw [smI_S (by omega)]
      show _ + rwN K (2 * (K : Int) + 1) * g _ = _
      rw [rwN_far (by omega), Int.zero_mul, Int.add_zero]
    have x2 : ∀ g : Int → Int, smI (fun j => rwN K j * g j) (2 * (K : Int) + 1 + 2) = smI (fun j => rwN K j * g j) (2 * (K : Int) + 1) := fun g => by
      rw [show 2 * (K : Int) + 1 + 2 = (2 * (K : Int) + 1 + 1) + 1 by omega, smI_S (by omega), x1]
      show _ + rwN K (2 * (K : Int) + 1 + 1) * g _ = _
      rw [rwN_far (by omega), Int.zero_mul, Int.add_zero]
    have y1 := x1 (fun j => odI pl n ec mk Fo Ho B Lt Kd Dr p (m + ((K + 1 : Nat) : Int)) (s + (1 + j)))
    have y2 := x2 (fun j => odI pl n ec mk Fo Ho B Lt Kd Dr p (m + ((K + 1 : Nat) : Int)) (s + (0 + j)))
    (try dsimp only at c3); (try dsimp only at y1); (try dsimp only at y2)
    rw [y1, y2] at c3
    rw [← c3]
    have e4 : 2 * (K : Int) + 1 + 2 = 2 * ((K + 1 : Nat) : Int) + 1 := by omega
    rw [e4]
    refine smI_c _ (by omega) (fun j j0 j1 => ?_)
    show (rwN K j + rwN K (j - 1) + rwN K (j - 2)) * odI pl n ec mk Fo Ho B Lt Kd Dr p (m + ((K + 1 : Nat) : Int)) (s + j) = rwN (K + 1) j * odI pl n ec mk Fo Ho B Lt Kd Dr p (m + ((K + 1 : Nat) : Int)) (s + j)
    rw [rwN, if_neg (by omega)]
theorem odds_eq (hz : okZ pl n ec Fo Ho B Lt) (hod : 1 ≤ pl → okDy pl mt Kd Dr) {p k : Int} : aOddsC pl n ec mk Fo Ho B Lt Kd Dr p k = aOddsR pl n ec mk mt Fo Ho B Lt Kd Dr p k := by
  unfold aOddsC aOddsR
  by_cases c : (0 ≤ p ∧ p < pl) ∧ 1 ≤ k ∧ k ≤ 6
  · have hs := hz.s (by omega)
    rw [if_pos c, if_pos c, odN_e hs (hod (by omega)) k.toNat 0 0 B (by omega) (by omega) (fun x x0 x1 => (drF_00 (hs.2.2.2.2.2.2 x x0 x1).2.2.1).symm)]
    have e1 : ((k.toNat : Nat) : Int) = k := by omega
    rw [e1]
    refine smI_c _ (by omega) (fun j j0 j1 => ?_)
    show (if amI (tS pl ec mk Fo Ho (fun x => drF (Kd x) (Dr x) k j (B x)) Lt (n - 1)) pl = p then rwN k.toNat j else 0) = rwN k.toNat j * odI pl n ec mk Fo Ho B Lt Kd Dr p (0 + k) (0 + j)
    rw [Int.zero_add, Int.zero_add]
    unfold odI
    split
    · rw [Int.mul_one]
    · rw [Int.mul_zero]
  · rw [if_neg c, if_neg c]
end ZO
section ZP
variable {pl n ec mk : Int} {Fo Ho B Lt F2 H2 B2 L2 Kd Dr Kd2 Dr2 : Int → Int}
theorem aOddsC_c (hz : okZ pl n ec Fo Ho B Lt) (e : teq pl Fo Ho B Lt F2 H2 B2 L2) (eK : ∀ p, 0 ≤ p → p < pl → Kd p = Kd2 p ∧ Dr p = Dr2 p) {p k : Int} : aOddsC pl n ec mk Fo Ho B Lt Kd Dr p k = aOddsC pl n ec mk F2 H2 B2 L2 Kd2 Dr2 p k := by
  unfold aOddsC
  by_cases c : (0 ≤ p ∧ p < pl) ∧ 1 ≤ k ∧ k ≤ 6
  · have hs := hz.s (by omega)
    have hn := hs.2.2.1
    rw [if_pos c, if_pos c]
    refine smI_c _ (by omega) (fun j j0 j1 => ?_)
    have e1 : amI (tS pl ec mk Fo Ho (fun x => drF (Kd x) (Dr x) k j (B x)) Lt (n - 1)) pl = amI (tS pl ec mk F2 H2 (fun x => drF (Kd2 x) (Dr2 x) k j (B2 x)) L2 (n - 1)) pl := amI_c pl (by omega) (fun y y0 y1 => tS_c (n := n) (hs.bt (fun p _ _ => ⟨rfl, rfl, rfl, rfl⟩) (fun x _ _ => drF_in _ _ _ _ _)) (fun q q0 q1 => ⟨(e q q0 q1).1, (e q q0 q1).2.1, by rw [(eK q q0 q1).1, (eK q q0 q1).2, (e q q0 q1).2.2.1], (e q q0 q1).2.2.2⟩) (n - 1) y (by omega) y0 y1)
    show (if amI (tS pl ec mk Fo Ho (fun x => drF (Kd x) (Dr x) k j (B x)) Lt (n - 1)) pl = p then rwN k.toNat j else 0) = if amI (tS pl ec mk F2 H2 (fun x => drF (Kd2 x) (Dr2 x) k j (B2 x)) L2 (n - 1)) pl = p then rwN k.toNat j else 0
    rw [e1]
  · rw [if_neg c, if_neg c]
end ZP
section ZQ
variable {a b : Nat → Nat} {v : Nat → Int} {g : Nat → Int → Int} {R : Int → Int → Int} {ds : List LwS} {ys : Nat → LwY} {w : Nat → Int} {h : Nat → Int → Int} {z y y1 y2 : Int} {u u2 : EW}
theorem ans_odds (hI : Inv v g ds ys w h) (h1 : QX11_odds a v g R ds ys y1 y2 z u) (h2 : (w 21 = 0 ∧ y = -1 ∧ u2 = RW b w h) ∨ (1 ≤ w 21 ∧ QX12_odds b w h y1 y2 y u2)) : z = y := by
  have hpl := hI.pl
  obtain ⟨e1, e2, e3, e4, e5⟩ := hI.es
  obtain ⟨_, _, _, _, _, _, _, _, _, _, _, _, _, _, _, hz, -⟩ := h1
  rcases h2 with ⟨hp, hy, -⟩ | ⟨hp, h2⟩
  · rw [hz, hy]
    unfold aOddsC
    rw [if_neg (by omega)]
  · obtain ⟨_, _, _, _, hy, -⟩ := h2
    obtain ⟨q1, q2⟩ := hI.2.2.2.1
    obtain ⟨o1, o2⟩ := q1 (by omega)
    rw [hz, hy, e1, e2, e3, e4, o2, aOddsC_c hI.cz hI.te (fun p a0 a1 => ⟨(q2 p a0 a1).2.2.symm, (q2 p a0 a1).2.1.symm⟩)]
    have hz2 := hI.rz
    rw [e1, e2, e3] at hz2
    exact odds_eq hz2 (fun h9 => by
      have := hI.rdy h9
      rw [e1, o2] at this
      exact this)
end ZQ
