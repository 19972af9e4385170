theorem mt_n {T : Int → Int} {n a : Int} {r : Int → Int} (h : itemOf (ch T n (sk T n a)) = -1) : pIt T n false 6 0 a r = .inr (sk T n a, r) := by rw [pIt, if_pos h]
theorem mt_o {T : Int → Int} {n a : Int} {r : Int → Int} (h : ¬ itemOf (ch T n (sk T n a)) = -1) (h0 : ¬ itemOf (ch T n (sk T n a)) = 0) : pIt T n false 6 0 a r = .inl (sk T n a) := by rw [pIt, if_neg h, if_pos (Or.inl ⟨rfl, h0⟩)]
theorem mt_f {T : Int → Int} {n a e : Int} {r : Int → Int} (h : itemOf (ch T n (sk T n a)) = 0) (h2 : pNum T n 2 1 99 (sk T n a + 1) = .inl e) : pIt T n false 6 0 a r = .inl e := by
  rw [pIt, h, if_neg (by decide), if_neg (by decide), show gTL 0 = 1 from rfl, show gTM 0 = 99 from rfl, h2]
theorem mt_1 {T : Int → Int} {n a b v : Int} {r : Int → Int} (h : itemOf (ch T n (sk T n a)) = 0) (h2 : pNum T n 2 1 99 (sk T n a + 1) = .inr (b, v)) : pIt T n false 6 0 a r = pIt T n false 5 (zOr 0 (zShl 1 0)) b (uZ r 0 v) := by
  rw [pIt, h, if_neg (by decide), if_neg (by decide), show gTL 0 = 1 from rfl, show gTM 0 = 99 from rfl, h2]
theorem mt_b {T : Int → Int} {n a b v : Int} {r : Int → Int} (h : itemOf (ch T n (sk T n a)) = 0) (h2 : pNum T n 2 1 99 (sk T n a + 1) = .inr (b, v)) (h3 : itemOf (ch T n (sk T n b)) = -1) : pIt T n false 6 0 a r = .inr (sk T n b, uZ r 0 v) := by
  rw [mt_1 h h2, pIt, if_pos h3]
theorem mt_d {T : Int → Int} {n a b v : Int} {r : Int → Int} (h : itemOf (ch T n (sk T n a)) = 0) (h2 : pNum T n 2 1 99 (sk T n a + 1) = .inr (b, v)) (h3 : ¬ itemOf (ch T n (sk T n b)) = -1) : pIt T n false 6 0 a r = .inl (sk T n b) := by
  rw [mt_1 h h2, pIt, if_neg h3]
  by_cases h4 : itemOf (ch T n (sk T n b)) = 0
  · rw [h4, if_pos (Or.inr (by decide))]
  · rw [if_pos (Or.inl ⟨rfl, h4⟩)]
theorem pCl_no {T : Int → Int} {n a : Int} {s : TS} (h : ¬ (ch T n (sk T n a) = 112 ∧ s.1 < 6)) (h2 : ¬ (ch T n (sk T n a) = 109 ∧ s.2.2.1 = 0)) : pCl T n a s = .inl (sk T n a) := by unfold pCl; rw [if_neg h, if_neg h2]
/-- the flat row holds what the rows hold -/
def flat (pl : Int) (R : Int → Int) (Rc : Int → Int → Int) : Prop := ∀ i j, 0 ≤ i → i < pl → 0 ≤ j → j ≤ 4 → R (5 * i + j) = Rc i j
theorem flat_0 {R : Int → Int} {Rc : Int → Int → Int} : flat 0 R Rc := fun i j h0 h1 => by omega
theorem flat_put {pl : Int} {R r : Int → Int} {Rc : Int → Int → Int} (h : flat pl R Rc) : flat (pl + 1) (rowW R pl r) (uZ Rc pl r) := fun i j h0 h1 h2 h3 => by
  unfold rowW
  by_cases e : i = pl
  · rw [if_pos (by omega), e, show uZ Rc pl r pl = r from uZ_at]
    congr 1
    omega
  · rw [if_neg (by omega), show uZ Rc pl r i = Rc i from uZ_ne e]
    exact h i j h0 (by omega) h2 h3
theorem flat_ok {pl mt x : Int} {R : Int → Int} {Rc : Int → Int → Int} (h : flat pl R Rc) : okFl pl R ↔ okTn (pl, mt, x, Rc) := by
  unfold okFl okTn
  dsimp only
  constructor
  · exact fun q => ⟨q.1, fun i h0 h1 => by have := q.2 i h0 h1; rw [h i 3 h0 h1 (by omega) (by omega)] at this; exact this⟩
  · exact fun q => ⟨q.1, fun i h0 h1 => by rw [h i 3 h0 h1 (by omega) (by omega)]; exact q.2 i h0 h1⟩
theorem flat_in {pl mt x : Int} {R : Int → Int} {Rc : Int → Int → Int} (h : flat pl R Rc) (hs : okTS (pl, mt, x, Rc)) : ∀ i, 0 ≤ i → i < pl → -1 ≤ R (5 * i + 3) ∧ R (5 * i + 3) ≤ 5 := fun i h0 h1 => by
  rw [h i 3 h0 h1 (by omega) (by omega)]
  exact (hs.2.2.2 i h0 h1).2.2.2.1
