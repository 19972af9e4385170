/-! A TOWN JUST OPENED -/
theorem tn_ok {T : Int → Int} {n : Int} {R : Int → Int → Int} {s : TS} (h : tnRes T n R = .inr s) : okTn s := by
  unfold tnRes at h
  cases e : pTnL T n 161 0 (0, 60, 0, R) with
  | inl f => rw [e] at h; cases h
  | inr q =>
    rw [e] at h
    by_cases k : okTn q.2
    · dsimp only at h
      rw [if_pos k] at h
      cases h
      exact k
    · dsimp only at h
      rw [if_neg k] at h
      cases h
theorem op_dy {p2 m2 x2 : Int} {R2 : Int → Int → Int} {K2 D2 : Int → Int} (h : okTS (p2, m2, x2, R2)) (hK : ∀ x, 0 ≤ x → x < 6 → K2 x = colR R2 2 x) (hD : ∀ x, 0 ≤ x → x < 6 → D2 x = colR R2 1 x) : okDy p2 m2 K2 D2 := by
  obtain ⟨h1, h2, h3, h4⟩ := h
  refine ⟨h2.1, h2.2, fun p a0 a1 => ?_⟩
  have hp : p < 6 := Int.lt_of_lt_of_le a1 h1.2
  obtain ⟨r0, r1, r2, r3, r4⟩ := h4 p a0 a1
  rw [hK p a0 hp, hD p a0 hp]
  exact ⟨r2, r1⟩
theorem op_z {T : Int → Int} {tn p2 m2 x2 n ec : Int} {R R2 : Int → Int → Int} {B3 F3 H3 L3 : Int → Int} (hr : tnRes T tn R = .inr (p2, m2, x2, R2)) (h : okTS (p2, m2, x2, R2)) (hn : 1 ≤ n ∧ n ≤ 30) (he : 0 ≤ ec ∧ ec ≤ 3) (hB : ∀ x, 0 ≤ x → x < 6 → B3 x = colR R2 0 x) (hF : ∀ x, 0 ≤ x → x < 6 → F3 x = colR R2 3 x) (hH : ∀ x, 0 ≤ x → x < 6 → H3 x = colR R2 4 x) (hL : ∀ x, 0 ≤ x → x < 6 → L3 x = 0) : okZ p2 n ec F3 H3 B3 L3 := by
  have hk := tn_ok hr
  obtain ⟨h1, h2, h3, h4⟩ := h
  have h1a : 0 ≤ p2 := h1.1
  have h1b : p2 ≤ 6 := h1.2
  refine ⟨h1a, h1b, hn.1, hn.2, he.1, he.2, fun p a0 a1 => ?_⟩
  have hp : p < 6 := by omega
  obtain ⟨r0, r1, r2, r3, r4⟩ := h4 p a0 a1
  have hf : R2 p 3 < p2 := (hk.2 p a0 a1).2
  rw [hB p a0 hp, hF p a0 hp, hH p a0 hp, hL p a0 hp]
  refine ⟨⟨r3.1, hf⟩, r4, ⟨r0.1, ?_⟩, by omega, by omega⟩
  have := r0.2
  show R2 p 0 ≤ 199
  dsimp only at this
  omega
