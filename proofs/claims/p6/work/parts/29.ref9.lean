theorem mt_n {T : Int → Int} {n a : Int} {r : Int → Int} (h : itemOf (ch T n (sk T n a)) = -1) : pIt T n false 6 0 a r = .inr (sk T n a, r) := by rw [pIt, if_pos h]
theorem mt_o {T : Int → Int} {n a : Int} {r : Int → Int} (h : ¬ itemOf (ch T n (sk T n a)) = -1) (h0 : ¬ itemOf (ch T n (sk T n a)) = 0) : pIt T n false 6 0 a r = .inl (sk T n a) := by rw [pIt, if_neg h, if_pos (Or.inl ⟨rfl, h0⟩)]
theorem mt_f {T : Int → Int} {n a e : Int} {r : Int → Int} (h : itemOf (ch T n (sk T n a)) = 0) (h2 : pNum T n 2 1 99 (sk T n a + 1) = .inl e) : pIt T n false 6 0 a r = .inl e := by
  rw [pIt, h, if_neg (by decide), if_neg (by decide), show gTL 0 = 1 from rfl, show gTM 0 = 99 from rfl, h2]
theorem mt_1 {T : Int → Int} {n a b v : Int} {r : Int → Int} (h : itemOf (ch T n (sk T n a)) = 0) (h2 : pNum T n 2 1 99 (sk T n a + 1) = .inr (b, v)) : pIt T n false 6 0 a r = pIt T n false 5 (zOr 0 (zShl 1 0)) b (uZ r 0 v) := by
  rw [pIt, h, if_neg (by decide), if_neg (by decide), show gTL 0 = 1 from rfl, show gTM 0 = 99 from rfl, h2]
theorem mt_b {T : Int → Int} {n a b v : Int} {r : Int → Int} (h : itemOf (ch T n (sk T n a)) = 0) (h2 : pNum T n 2 1 99 (sk T n a + 1) = .inr (b, v)) (h3 : itemOf (ch T n (sk T n b)) = -1) : pIt T n false 6 0 a r = .inr (sk T n b, uZ r 0 v) := by
  rw [mt_1 h h2, pIt, if_pos h3]
theorem mt_d {T : Int → Int} {n a b v : Int} {r : Int → Int} (h : itemOf (ch T n (sk T n a)) = 0) (h2 : pNum T n 2 1 99 (sk T n a + 1) = .inr (b, v)) (h3 : ¬ itemOf (ch T n (sk T n b)) = -1) : pIt T n false 6 0 a r = .inl (sk T n b) := by
  rw [mt_1 h h2, pIt, if_neg h3]
  by_cases h4 : itemOf (ch T n (sk T n b)) = 0
  · rw [h4, if_pos (Or.inr (by decide))]
  · rw [if_pos (Or.inl ⟨rfl, h4⟩)]
theorem pCl_no {T : Int → Int} {n a : Int} {s : TS} (h : ¬ (ch T n (sk T n a) = 112 ∧ s.1 < 6)) (h2 : ¬ (ch T n (sk T n a) = 109 ∧ s.2.2.1 = 0)) : pCl T n a s = .inl (sk T n a) := by unfold pCl; rw [if_neg h, if_neg h2]
/-- the flat row holds what the rows hold -/
def flat (pl : Int) (R : Int → Int) (Rc : Int → Int → Int) : Prop := ∀ i j, 0 ≤ i → i < pl → 0 ≤ j → j ≤ 4 → R (5 * i + j) = Rc i j
theorem flat_0 {R : Int → Int} {Rc : Int → Int → Int} : flat 0 R Rc := fun i j h0 h1 => by omega
theorem flat_put {pl : Int} {R r : Int → Int} {Rc : Int → Int → Int} (h : flat pl R Rc) : flat (pl + 1) (rowW R pl r) (uZ Rc pl r) := fun i j h0 h1 h2 h3 => by
  unfold rowW
  by_cases e : i = pl
  · rw [if_pos (by omega), e, show uZ Rc pl r pl = r from uZ_at]
    congr 1
    omega
  · rw [if_neg (by omega), show uZ Rc pl r i = Rc i from uZ_ne e]
    exact h i j h0 (by omega) h2 h3
theorem flat_ok {pl mt x : Int} {R : Int → Int} {Rc : Int → Int → Int} (h : flat pl R Rc) : okFl pl R ↔ okTn (pl, mt, x, Rc) := by
  unfold okFl okTn
  dsimp only
  constructor
  · exact fun q => ⟨q.1, fun i h0 h1 => by have := q.2 i h0 h1; rw [h i 3 h0 h1 (by omega) (by omega)] at this; exact this⟩
  · exact fun q => ⟨q.1, fun i h0 h1 => by rw [h i 3 h0 h1 (by omega) (by omega)]; exact q.2 i h0 h1⟩
theorem flat_in {pl mt x : Int} {R : Int → Int} {Rc : Int → Int → Int} (h : flat pl R Rc) (hs : okTS (pl, mt, x, Rc)) : ∀ i, 0 ≤ i → i < pl → -1 ≤ R (5 * i + 3) ∧ R (5 * i + 3) ≤ 5 := fun i h0 h1 => by
  rw [h i 3 h0 h1 (by omega) (by omega)]
  exact (hs.2.2.2 i h0 h1).2.2.2.1
/-- how a clause ended at p: read (left), or stopped at an item that may not stand there (right) -/
def ends (T : Int → Int) (n a : Int) (s : TS) (p : Int) (s2 : TS) : Prop := pCl T n a s = .inr (sk T n p, s2) ∨ (pCl T n a s = .inl (sk T n p) ∧ ¬ itemOf (ch T n (sk T n p)) = -1)
theorem ends_l {T : Int → Int} {n a p : Int} {s s2 : TS} (h : ends T n a s p s2) (h2 : ch T n (sk T n p) = 59 ∨ ch T n (sk T n p) = 0) : pCl T n a s = .inr (sk T n p, s2) := by
  rcases h with h | h
  · exact h
  · exfalso
    apply h.2
    rcases h2 with q | q <;> (rw [q]; rfl)
theorem ends_59 {T : Int → Int} {n a p : Int} {s s2 : TS} {g : Nat} (h : ends T n a s p s2) (h2 : ch T n (sk T n p) = 59) : pTnL T n (g + 1) a s = pTnL T n g (sk T n p + 1) s2 := by
  rw [pTnL_g (ends_l h (Or.inl h2)) (by dsimp only; rw [sk_idem]; omega) (by dsimp only; rw [sk_idem]; omega)]
  dsimp only
  rw [sk_idem]
theorem ends_0 {T : Int → Int} {n a p : Int} {s s2 : TS} {g : Nat} (h : ends T n a s p s2) (h2 : ch T n (sk T n p) = 0) : pTnL T n (g + 1) a s = .inr (sk T n p, s2) := by
  rw [pTnL_e (ends_l h (Or.inr h2)) (by dsimp only; rw [sk_idem]; omega)]
  dsimp only
  rw [sk_idem]
theorem ends_x {T : Int → Int} {n a p : Int} {s s2 : TS} {g : Nat} (h : ends T n a s p s2) (h2 : ¬ ch T n (sk T n p) = 0) (h3 : ¬ ch T n (sk T n p) = 59) : pTnL T n (g + 1) a s = .inl (sk T n p) := by
  rcases h with h | h
  · rw [pTnL_n h (by dsimp only; rw [sk_idem]; omega) (by dsimp only; rw [sk_idem]; omega)]
    dsimp only
    rw [sk_idem]
  · exact pTnL_f h.1
theorem ends_mb {T : Int → Int} {n a b v : Int} {s : TS} (h : ch T n (sk T n a) = 109 ∧ s.2.2.1 = 0) (h1 : itemOf (ch T n (sk T n (sk T n a + 1))) = 0) (h2 : pNum T n 2 1 99 (sk T n (sk T n a + 1) + 1) = .inr (b, v)) : ends T n a s b (s.1, v, 1, s.2.2.2) := by
  by_cases h3 : itemOf (ch T n (sk T n b)) = -1
  · exact Or.inl (by rw [pCl_m h (mt_b h1 h2 h3)]; rw [show uZ (fun _ => s.2.1) 0 v 0 = v from uZ_at])
  · exact Or.inr ⟨pCl_mf h (mt_d h1 h2 h3), h3⟩
theorem ends_mo {T : Int → Int} {n a : Int} {s : TS} (h : ch T n (sk T n a) = 109 ∧ s.2.2.1 = 0) (h1 : ¬ itemOf (ch T n (sk T n (sk T n a + 1))) = 0) : ends T n a s (sk T n (sk T n a + 1)) (s.1, s.2.1, 1, s.2.2.2) := by
  unfold ends
  rw [sk_idem]
  by_cases h3 : itemOf (ch T n (sk T n (sk T n a + 1))) = -1
  · exact Or.inl (pCl_m h (mt_n h3))
  · exact Or.inr ⟨pCl_mf h (mt_o h3 h1), h3⟩
