theorem lw_step {T : Int → Int} {n : Int} (hn : n ≤ 160) : ∀ (f : Nat) (a : Int) (acc : List (List Int × List Int)), 0 ≤ a → a ≤ n → lpr (pLawL T n f a (flatLaw acc)) = lps (pLawLS T n f a acc) := by
  intro f
  induction f with
  | zero => intro a acc h0 ha; rfl
  | succ f ih =>
    intro a acc h0 ha
    rw [pLawL, pLawLS, pLawC_S hn h0 ha]
    cases hq : pLawS T n a with
    | inl e => rfl
    | inr q =>
      obtain ⟨b, c, s⟩ := q
      have h1 := pLawS_in hn h0 ha hq
      have h2 := sk_in (T := T) h1.2.1
      show lpr (if ch T n (sk T n b) = 0 then .inr (sk T n b, flatLaw acc ++ joinC c s) else if ch T n (sk T n b) = 59 then pLawL T n f (sk T n b + 1) (flatLaw acc ++ joinC c s) else .inl (sk T n b)) = lps (if ch T n (sk T n b) = 0 then .inr (acc ++ [(c, s)]) else if ch T n (sk T n b) = 59 then pLawLS T n f (sk T n b + 1) (acc ++ [(c, s)]) else .inl (sk T n b))
      have h3 : flatLaw (acc ++ [(c, s)]) = flatLaw acc ++ joinC c s := flatLaw_one
      by_cases k1 : ch T n (sk T n b) = 0
      · rw [if_pos k1, if_pos k1]; show (Sum.inr (flatLaw acc ++ joinC c s) : Int ⊕ List Int) = Sum.inr (flatLaw (acc ++ [(c, s)])); rw [h3]
      · rw [if_neg k1, if_neg k1]
        by_cases k2 : ch T n (sk T n b) = 59
        · rw [if_pos k2, if_pos k2, ← h3]
          have : sk T n b < n := ch_lt (T := T) (by omega)
          exact ih _ _ (by omega) (by omega)
        · rw [if_neg k2, if_neg k2]; rfl
/-- what the class reads of a law's text and what the reference reads of it are one -/
theorem lw_rel {T : Int → Int} {n : Int} (hn : n ≤ 160) (h0 : 0 ≤ n) : lwRes T n = lps (pLawLS T n 161 0 []) := by
  rw [← lw_step hn 161 0 [] (by omega) h0]
  show lwRes T n = lpr (pLawL T n 161 0 [])
  unfold lwRes
  cases pLawL T n 161 0 [] <;> rfl
