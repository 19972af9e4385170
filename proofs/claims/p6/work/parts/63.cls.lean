/-! the class's way of working a law out: all its signs in one row, what is left out skipped -/
def tl0 (l : List Int) : List Int := match l with
  | _ :: r => r
  | [] => []
def clsR (e : Int → Int) : List Int → List Int → Bool → Int
  | [], _, _ => 0
  | t :: ts, st, true => clsR e ts st (decide (t ≠ -59))
  | t :: ts, st, false => if t = -59 then hd0 st else if t = -63 then clsR e ts (tl0 st) (decide (hd0 st = 0)) else clsR e ts (ev1 e t st) false
def clsO (e : Int → Int) (M : Int) : List Int → List Int → Bool → Prop
  | [], _, _ => True
  | t :: ts, st, true => clsO e M ts st (decide (t ≠ -59))
  | t :: ts, st, false => if t = -59 then (∃ v r, st = v :: r) ∧ ∀ x ∈ st, inB x else if t = -63 then (∃ v r, st = v :: r) ∧ (∀ x ∈ st, inB x) ∧ clsO e M ts (tl0 st) (decide (hd0 st = 0)) else okAt M t st ∧ clsO e M ts (ev1 e t st) false
theorem okAt_nt {M t : Int} {st : List Int} (h : okAt M t st) : t ≠ -59 ∧ t ≠ -63 := by
  constructor <;>
  · intro e
    subst e
    have h2 := h.2
    rw [if_neg (by decide), if_pos (by decide)] at h2
    omega
theorem clsR_run {e : Int → Int} {M : Int} : ∀ (ts rest st : List Int), okRn e M ts st → clsR e (ts ++ rest) st false = clsR e rest (evL e ts st) false ∧ (clsO e M rest (evL e ts st) false → clsO e M (ts ++ rest) st false)
  | [], rest, st, _ => ⟨rfl, fun h => h⟩
  | t :: ts, rest, st, h => by
    have h2 := okAt_nt h.1
    have ih := clsR_run ts rest (ev1 e t st) h.2
    refine ⟨?_, fun g => ?_⟩
    · show clsR e (t :: (ts ++ rest)) st false = _
      rw [clsR, if_neg h2.1, if_neg h2.2]
      exact ih.1
    · show clsO e M (t :: (ts ++ rest)) st false
      rw [clsO, if_neg h2.1, if_neg h2.2]
      exact ⟨h.1, ih.2 g⟩
/-- what is skipped holds no ; -/
theorem clsR_skip {e : Int → Int} {M : Int} : ∀ (ts rest st : List Int), (∀ t ∈ ts, t ≠ -59) → clsR e (ts ++ [-59] ++ rest) st true = clsR e rest st false ∧ (clsO e M rest st false → clsO e M (ts ++ [-59] ++ rest) st true)
  | [], rest, st, _ => ⟨rfl, fun h => h⟩
  | t :: ts, rest, st, h => by
    have h2 := h t (by simp)
    have ih := clsR_skip (e := e) (M := M) ts rest st (fun u hu => h u (by simp [hu]))
    refine ⟨?_, fun g => ?_⟩
    · show clsR e (t :: (ts ++ [-59] ++ rest)) st true = _
      rw [clsR, decide_eq_true h2]
      exact ih.1
    · show clsO e M (t :: (ts ++ [-59] ++ rest)) st true
      rw [clsO, decide_eq_true h2]
      exact ih.2 g
/-- no ; among the signs of a sum or a condition -/
def noS (ts : List Int) : Prop := ∀ t ∈ ts, t ≠ -59
theorem noS_app {a b : List Int} (ha : noS a) (hb : noS b) : noS (a ++ b) := fun t ht => (List.mem_append.mp ht).elim (ha t) (hb t)
theorem noS_one {t : Int} (h : t ≠ -59) : noS [t] := fun u hu => by rw [List.mem_singleton.mp hu]; exact h
theorem clNo : clP noS noS := by
  refine ⟨fun t ht => noS_one ?_, fun a b t ha hb ht => noS_app (noS_app ha hb) (noS_one ?_), fun a b t ha hb ht => noS_app ha (noS_app hb (noS_one ?_)), fun a ha => noS_app ha (noS_one (by decide)), fun a b t ha hb ht => noS_app (noS_app ha hb) (noS_one ?_)⟩
  · unfold isOpd at ht; omega
  · unfold isArT at ht; omega
  · unfold isCmT at ht; omega
  · unfold isLoT at ht; omega
theorem cls_law {e : Int → Int} {M : Int} (he : ∀ j, inB (e j)) : ∀ cs : List (List Int × List Int), (∀ p ∈ cs, gC (pP e M) (qP e M) p) → (∀ p ∈ cs, gC noS noS p) → (∀ p ∈ cs, opN p.1 ≤ M ∧ opN p.2 ≤ M) → clsR e (flatLaw cs) [] false = wth e cs ∧ clsO e M (flatLaw cs) [] false
  | [], _, _, _ => ⟨rfl, trivial⟩
  | p :: r, h, hn, hm => by
    have ih := cls_law he r (fun q hq => h q (by simp [hq])) (fun q hq => hn q (by simp [hq])) (fun q hq => hm q (by simp [hq]))
    have hp := h p (by simp)
    have hpn := hn p (by simp)
    have hpm := hm p (by simp)
    have nob : ∀ x ∈ ([] : List Int), inB x := fun x hx => by cases hx
    obtain ⟨s1, s2, vs, s3, s4⟩ := hp.2
    have s5 := s4 [] (by rw [List.length_nil]; omega) nob
    have fl : flatLaw (p :: r) = joinC p.1 p.2 ++ flatLaw r := rfl
    have sum : clsR e (p.2 ++ ([-59] ++ flatLaw r)) [] false = vs ∧ clsO e M (p.2 ++ ([-59] ++ flatLaw r)) [] false := by
      have k := clsR_run (M := M) p.2 ([-59] ++ flatLaw r) [] s5.1
      rw [s5.2] at k
      refine ⟨k.1, k.2 ?_⟩
      show clsO e M (-59 :: flatLaw r) [vs] false
      rw [clsO, if_pos rfl]
      exact ⟨⟨vs, [], rfl⟩, fun x hx => by rw [List.mem_singleton.mp hx]; exact s3⟩
    rw [fl, wth, s5.2]
    by_cases c0 : p.1 = []
    · have e1 : joinC p.1 p.2 ++ flatLaw r = p.2 ++ ([-59] ++ flatLaw r) := by unfold joinC; rw [if_pos c0, List.nil_append, List.append_assoc]
      rw [e1, if_pos (Or.inl c0)]
      exact sum
    · have e1 : joinC p.1 p.2 ++ flatLaw r = p.1 ++ (-63 :: (p.2 ++ [-59] ++ flatLaw r)) := by unfold joinC; rw [if_neg c0]; simp only [List.append_assoc, List.cons_append, List.nil_append]
      obtain ⟨q1, q2, vq, q3, q4⟩ := hp.1.resolve_left c0
      have q5 := q4 [] (by rw [List.length_nil]; omega) nob
      have k := clsR_run (M := M) p.1 (-63 :: (p.2 ++ [-59] ++ flatLaw r)) [] q5.1
      rw [q5.2] at k
      rw [e1, k.1, clsR, if_neg (by decide), if_pos rfl, q5.2]
      have ob : clsO e M (p.2 ++ [-59] ++ flatLaw r) [] (decide (vq = 0)) → clsO e M (-63 :: (p.2 ++ [-59] ++ flatLaw r)) [vq] false := fun g => by
        rw [clsO, if_neg (by decide), if_pos rfl]
        exact ⟨⟨vq, [], rfl⟩, fun x hx => by rw [List.mem_singleton.mp hx]; exact in01 q3, g⟩
      show clsR e (p.2 ++ [-59] ++ flatLaw r) [] (decide (vq = 0)) = (if p.1 = [] ∨ ¬ vq = 0 then vs else wth e r) ∧ _
      by_cases c1 : vq = 0
      · rw [decide_eq_true c1] at ob ⊢
        have k2 := clsR_skip (e := e) (M := M) p.2 (flatLaw r) [] hpn.2
        rw [k2.1, if_neg (fun g => g.elim c0 (fun g => g c1))]
        exact ⟨ih.1, k.2 (ob (k2.2 ih.2))⟩
      · rw [decide_eq_false c1] at ob ⊢
        rw [if_pos (Or.inr c1), List.append_assoc]
        rw [List.append_assoc] at ob
        refine ⟨sum.1, ?_⟩
        have := k.2 (by rw [List.append_assoc]; exact ob sum.2)
        rwa [List.append_assoc] at this
theorem opN_le : ∀ ts : List Int, opN ts ≤ (ts.length : Int)
  | [] => by show (0 : Int) ≤ 0; omega
  | t :: ts => by
    have := opN_le ts
    have h1 : isO t ≤ 1 := by unfold isO; split <;> omega
    show isO t + opN ts ≤ _
    rw [List.length_cons]
    omega
theorem joinC_len {p : List Int × List Int} : (p.1.length : Int) + (p.2.length : Int) + 1 ≤ ((joinC p.1 p.2).length : Int) := by
  unfold joinC
  split
  · next h => rw [h]; simp only [List.length_append, List.length_singleton, List.length_nil]; omega
  · simp only [List.length_append, List.length_singleton]; omega
theorem flat_le : ∀ (cs : List (List Int × List Int)) (p : List Int × List Int), p ∈ cs → (p.1.length : Int) + (p.2.length : Int) + 1 ≤ ((flatLaw cs).length : Int)
  | [], p, h => by cases h
  | q :: r, p, h => by
    have e : flatLaw (q :: r) = joinC q.1 q.2 ++ flatLaw r := rfl
    rw [e, List.length_append]
    rcases List.mem_cons.mp h with rfl | h
    · have := joinC_len (p := p); omega
    · have := flat_le r p h; omega
/-- a law that was read, worked out in one row -/
theorem cls_ok {e : Int → Int} (he : ∀ j, inB (e j)) {cs : List (List Int × List Int)} (h : okLaw cs) : clsR e (flatLaw cs) [] false = wth e cs ∧ clsO e ((flatLaw cs).length : Int) (flatLaw cs) [] false := by
  refine cls_law he cs (h _ _ (clPQ he)) (h _ _ clNo) (fun p hp => ?_)
  have h1 := flat_le cs p hp
  have h2 := opN_le p.1
  have h3 := opN_le p.2
  omega
/-! a law that does not ask for the DAMP of the DAY ahead -/
def noO (ts : List Int) : Prop := ∀ t ∈ ts, t ≠ -111
theorem ev1_noO {d mt pl o o2 t : Int} {st : List Int} (h : t ≠ -111) : ev1 (envI d mt pl o) t st = ev1 (envI d mt pl o2) t st := by
  unfold ev1
  by_cases h1 : kC t = 1
  · have hv : envI d mt pl o (kV t) = envI d mt pl o2 (kV t) := by
      have : ¬ kV t = 4 := by
        unfold kV
        by_cases g : 0 ≤ t
        · exfalso
          unfold kC at h1
          rw [if_pos g] at h1
          omega
        · rw [if_neg g]
          (repeat' split) <;> omega
      have hk : kV t = 0 ∨ kV t = 1 ∨ kV t = 2 ∨ kV t = 3 := by
        unfold kV at this ⊢
        by_cases g : 0 ≤ t
        · exfalso
          unfold kC at h1
          rw [if_pos g] at h1
          omega
        · rw [if_neg g] at this ⊢
          (repeat' split) <;> omega
      unfold envI
      rcases hk with e | e | e | e <;> rw [e] <;> rfl
    rw [hv]
  · rw [if_neg h1, if_neg h1]
theorem evL_noO {d mt pl o o2 : Int} : ∀ (ts st : List Int), noO ts → evL (envI d mt pl o) ts st = evL (envI d mt pl o2) ts st
  | [], _, _ => rfl
  | t :: ts, st, h => by
    rw [evL, evL, ev1_noO (h t (by simp))]
    exact evL_noO ts _ (fun u hu => h u (by simp [hu]))
theorem wth_noO {d mt pl o o2 : Int} : ∀ cs : List (List Int × List Int), noO (flatLaw cs) → wth (envI d mt pl o) cs = wth (envI d mt pl o2) cs
  | [], _ => rfl
  | p :: r, h => by
    have e : flatLaw (p :: r) = joinC p.1 p.2 ++ flatLaw r := rfl
    rw [e] at h
    have h1 : noO p.1 := fun t ht => h t (List.mem_append_left _ (by unfold joinC; rw [if_neg (fun g => by rw [g] at ht; cases ht)]; simp [ht]))
    have h2 : noO p.2 := fun t ht => h t (List.mem_append_left _ (by unfold joinC; simp [ht]))
    have h3 : noO (flatLaw r) := fun t ht => h t (List.mem_append_right _ ht)
    rw [wth, wth, evL_noO (o2 := o2) p.1 [] h1, evL_noO (o2 := o2) p.2 [] h2, wth_noO r h3]
theorem dyI_noO {mt pl d : Int} {cs : List (List Int × List Int)} (hd : 0 ≤ d) (h : noO (flatLaw cs)) : max 0 (min 9 (wth (envI d mt pl 0) cs)) = dyI cs mt pl d := by
  by_cases e : d = 0
  · rw [e]; exact dyI_0.symm
  · have e1 := dyI_S (cs := cs) (mt := mt) (pl := pl) (d := d - 1) (by omega)
    rw [Int.sub_add_cancel] at e1
    rw [e1, wth_noO (o2 := dyI cs mt pl (d - 1)) cs h]
theorem env_d {d mt pl o : Int} : envI d mt pl o (kV (-100)) = d := if_pos (by decide)
theorem env_w {d mt pl o : Int} : envI d mt pl o (kV (-119)) = d.tmod 7 := by unfold envI; rw [if_neg (by decide), if_pos (by decide)]
theorem env_m {d mt pl o : Int} : envI d mt pl o (kV (-109)) = mt := by unfold envI; rw [if_neg (by decide), if_neg (by decide), if_pos (by decide)]
theorem env_n {d mt pl o : Int} : envI d mt pl o (kV (-110)) = pl := by unfold envI; rw [if_neg (by decide), if_neg (by decide), if_neg (by decide), if_pos (by decide)]
theorem env_o {d mt pl o : Int} : envI d mt pl o (kV (-111)) = o := by unfold envI; rw [if_neg (by decide), if_neg (by decide), if_neg (by decide), if_neg (by decide)]
