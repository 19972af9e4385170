/-! working a law's signs out: a stack of numbers, its top first -/
def bnd (x : Int) : Int := max (-1000000) (min 1000000 x)
def inB (x : Int) : Prop := -1000000 ≤ x ∧ x ≤ 1000000
def wk2 (k a b : Int) : Int := if k = 2 then bnd (a + b) else if k = 3 then bnd (a - b) else if k = 4 then bnd (a * b) else if k = 5 then (if b = 0 then 0 else bnd (a.tdiv b)) else if k = 6 then (if a = b then 1 else 0) else if k = 7 then (if a < b then 1 else 0) else if k = 8 then (if b < a then 1 else 0) else if k = 10 then (if a ≠ 0 ∧ b ≠ 0 then 1 else 0) else (if a ≠ 0 ∨ b ≠ 0 then 1 else 0)
def ev1 (e : Int → Int) (t : Int) (st : List Int) : List Int :=
  if kC t = 0 then t :: st else if kC t = 1 then e (kV t) :: st else if kC t = 9 then (match st with | a :: r => (1 - a) :: r | [] => []) else (match st with | b :: a :: r => wk2 (kC t) a b :: r | _ => [])
def evL (e : Int → Int) : List Int → List Int → List Int
  | [], st => st
  | t :: ts, st => evL e ts (ev1 e t st)
/-- what must be on the stack ahead of a sign -/
def okAt (M : Int) (t : Int) (st : List Int) : Prop := (∀ x ∈ st, inB x) ∧ (if kC t = 0 then 0 ≤ t ∧ t ≤ 9999 ∧ (st.length : Int) < M else if kC t = 1 then (t = -100 ∨ t = -119 ∨ t = -109 ∨ t = -110 ∨ t = -111) ∧ (st.length : Int) < M else if kC t = 9 then t = -33 ∧ ∃ a r, st = a :: r ∧ (a = 0 ∨ a = 1) else ∃ b a r, st = b :: a :: r ∧ (isArT t ∨ isCmT t ∨ (isLoT t ∧ (a = 0 ∨ a = 1) ∧ (b = 0 ∨ b = 1))))
def okRn (e : Int → Int) (M : Int) : List Int → List Int → Prop
  | [], _ => True
  | t :: ts, st => okAt M t st ∧ okRn e M ts (ev1 e t st)
def isO (t : Int) : Int := if kC t = 0 ∨ kC t = 1 then 1 else 0
def opN : List Int → Int
  | [] => 0
  | t :: ts => isO t + opN ts
theorem evL_app {e : Int → Int} : ∀ (a b st : List Int), evL e (a ++ b) st = evL e b (evL e a st)
  | [], _, _ => rfl
  | t :: a, b, st => evL_app a b (ev1 e t st)
theorem okRn_app {e : Int → Int} {M : Int} : ∀ (a b st : List Int), okRn e M a st → okRn e M b (evL e a st) → okRn e M (a ++ b) st
  | [], _, _, _, h => h
  | t :: a, b, st, h, g => ⟨h.1, okRn_app a b (ev1 e t st) h.2 g⟩
theorem opN_app : ∀ (a b : List Int), opN (a ++ b) = opN a + opN b
  | [], b => by show opN b = 0 + opN b; omega
  | t :: a, b => by show isO t + opN (a ++ b) = isO t + opN a + opN b; rw [opN_app a b]; omega
theorem bnd_in (x : Int) : inB (bnd x) := by unfold bnd inB; omega
theorem b01 {c : Prop} [Decidable c] : inB (if c then 1 else 0) := by unfold inB; split <;> omega
theorem wk2_in (k a b : Int) : inB (wk2 k a b) := by
  unfold wk2
  repeat' split
  all_goals first | exact bnd_in _ | exact (show inB 0 by unfold inB; omega) | exact (show inB 1 by unfold inB; omega)
theorem kC_opd {t : Int} (h : isOpd t) : (kC t = 0 ∧ 0 ≤ t ∧ t ≤ 9999) ∨ (kC t = 1 ∧ (t = -100 ∨ t = -119 ∨ t = -109 ∨ t = -110 ∨ t = -111)) := by
  unfold isOpd at h
  rcases h with h | h | h | h | h | h
  · left; refine ⟨?_, h⟩; unfold kC; rw [if_pos h.1]
  all_goals right; subst h; exact ⟨by decide, by decide⟩
theorem kC_ar {t : Int} (h : isArT t ∨ isCmT t ∨ isLoT t) : ¬ kC t = 0 ∧ ¬ kC t = 1 ∧ ¬ kC t = 9 := by
  unfold isArT isCmT isLoT at h
  rcases h with (h | h | h | h) | (h | h | h) | (h | h) <;> subst h <;> decide
/-- a sum: one number more on the stack -/
def pP (e : Int → Int) (M : Int) (ts : List Int) : Prop := 1 ≤ opN ts ∧ 2 * opN ts ≤ (ts.length : Int) + 1 ∧ ∃ v, inB v ∧ ∀ st : List Int, (st.length : Int) + opN ts ≤ M → (∀ x ∈ st, inB x) → okRn e M ts st ∧ evL e ts st = v :: st
def qP (e : Int → Int) (M : Int) (ts : List Int) : Prop := 1 ≤ opN ts ∧ 2 * opN ts ≤ (ts.length : Int) + 1 ∧ ∃ v, (v = 0 ∨ v = 1) ∧ ∀ st : List Int, (st.length : Int) + opN ts ≤ M → (∀ x ∈ st, inB x) → okRn e M ts st ∧ evL e ts st = v :: st
theorem in01 {v : Int} (h : v = 0 ∨ v = 1) : inB v := by unfold inB; omega
theorem ev_two {e : Int → Int} {t a b : Int} {st : List Int} (h : isArT t ∨ isCmT t ∨ isLoT t) : ev1 e t (b :: a :: st) = wk2 (kC t) a b :: st := by
  have h2 := kC_ar h
  unfold ev1
  rw [if_neg h2.1, if_neg h2.2.1, if_neg h2.2.2]
theorem two_P {e : Int → Int} {M : Int} {a b : List Int} {t va vb : Int} (ht : isArT t ∨ isCmT t ∨ (isLoT t ∧ (va = 0 ∨ va = 1) ∧ (vb = 0 ∨ vb = 1))) (ha1 : 1 ≤ opN a) (ha2 : 2 * opN a ≤ (a.length : Int) + 1) (hva : inB va) (ha : ∀ st : List Int, (st.length : Int) + opN a ≤ M → (∀ x ∈ st, inB x) → okRn e M a st ∧ evL e a st = va :: st)
    (hb1 : 1 ≤ opN b) (hb2 : 2 * opN b ≤ (b.length : Int) + 1) (hvb : inB vb) (hb : ∀ st : List Int, (st.length : Int) + opN b ≤ M → (∀ x ∈ st, inB x) → okRn e M b st ∧ evL e b st = vb :: st) :
    1 ≤ opN (a ++ (b ++ [t])) ∧ 2 * opN (a ++ (b ++ [t])) ≤ ((a ++ (b ++ [t])).length : Int) + 1 ∧ ∀ st : List Int, (st.length : Int) + opN (a ++ (b ++ [t])) ≤ M → (∀ x ∈ st, inB x) → okRn e M (a ++ (b ++ [t])) st ∧ evL e (a ++ (b ++ [t])) st = wk2 (kC t) va vb :: st := by
  have h3 : isArT t ∨ isCmT t ∨ isLoT t := by
    rcases ht with h | h | h
    · exact Or.inl h
    · exact Or.inr (Or.inl h)
    · exact Or.inr (Or.inr h.1)
  have h2 := kC_ar h3
  have ho : opN [t] = 0 := by
    show isO t + 0 = 0
    unfold isO
    rw [if_neg (by omega)]
    rfl
  rw [opN_app, opN_app, ho]
  refine ⟨by omega, by simp only [List.length_append, List.length_singleton]; omega, fun st hm hs => ?_⟩
  have k1 := ha st (by omega) hs
  have hs2 : ∀ x ∈ va :: st, inB x := fun x hx => (List.mem_cons.mp hx).elim (fun q => by rw [q]; exact hva) (hs x)
  have k2 := hb (va :: st) (by rw [List.length_cons]; omega) hs2
  have hs3 : ∀ x ∈ vb :: va :: st, inB x := fun x hx => (List.mem_cons.mp hx).elim (fun q => by rw [q]; exact hvb) (hs2 x)
  have e1 : evL e (a ++ (b ++ [t])) st = wk2 (kC t) va vb :: st := by
    rw [evL_app, k1.2, evL_app, k2.2]
    show ev1 e t (vb :: va :: st) = _
    exact ev_two h3
  refine ⟨okRn_app _ _ _ k1.1 (by rw [k1.2]; refine okRn_app _ _ _ k2.1 (by rw [k2.2]; refine ⟨⟨hs3, ?_⟩, trivial⟩; rw [if_neg h2.1, if_neg h2.2.1, if_neg h2.2.2]; exact ⟨vb, va, st, rfl, ht⟩)), e1⟩
theorem clPQ {e : Int → Int} {M : Int} (he : ∀ j, inB (e j)) : clP (pP e M) (qP e M) := by
  refine ⟨fun t ht => ?_, fun a b t ha hb ht => ?_, fun a b t ha hb ht => ?_, fun a ha => ?_, fun a b t ha hb ht => ?_⟩
  · have hk := kC_opd ht
    have ho : opN [t] = 1 := by
      show isO t + 0 = 1
      unfold isO
      rw [if_pos (by omega)]
      rfl
    refine ⟨by rw [ho]; omega, by rw [ho]; simp, ?_⟩
    rw [ho]
    rcases hk with ⟨k0, k1⟩ | ⟨k0, k1⟩
    · refine ⟨t, by unfold inB; omega, fun st hm hs => ⟨⟨⟨hs, ?_⟩, trivial⟩, ?_⟩⟩
      · rw [if_pos k0]; exact ⟨k1.1, k1.2, by omega⟩
      · show ev1 e t st = _
        unfold ev1
        rw [if_pos k0]
    · refine ⟨e (kV t), he _, fun st hm hs => ⟨⟨⟨hs, ?_⟩, trivial⟩, ?_⟩⟩
      · rw [if_neg (by omega), if_pos k0]; exact ⟨k1, by omega⟩
      · show ev1 e t st = _
        unfold ev1
        rw [if_neg (by omega), if_pos k0]
  · obtain ⟨a1, a2, va, a3, a4⟩ := ha
    obtain ⟨b1, b2, vb, b3, b4⟩ := hb
    have h := two_P (Or.inl ht) a1 a2 a3 a4 b1 b2 b3 b4
    rw [List.append_assoc]
    exact ⟨h.1, h.2.1, _, wk2_in _ _ _, h.2.2⟩
  · obtain ⟨a1, a2, va, a3, a4⟩ := ha
    obtain ⟨b1, b2, vb, b3, b4⟩ := hb
    have h := two_P (Or.inr (Or.inl ht)) a1 a2 a3 a4 b1 b2 b3 b4
    refine ⟨h.1, h.2.1, _, ?_, h.2.2⟩
    unfold isCmT at ht
    rcases ht with rfl | rfl | rfl <;> (unfold wk2 kC; simp; omega)
  · obtain ⟨a1, a2, va, a3, a4⟩ := ha
    have ho : opN [-33] = 0 := by decide
    rw [← List.append_nil a] at a1 a2 a4
    rw [List.append_nil] at a1 a2 a4
    refine ⟨by rw [opN_app, ho]; omega, by rw [opN_app, ho, List.length_append, List.length_singleton]; omega, 1 - va, by omega, fun st hm hs => ?_⟩
    rw [opN_app, ho] at hm
    have k1 := a4 st (by omega) hs
    have hs2 : ∀ x ∈ va :: st, inB x := fun x hx => (List.mem_cons.mp hx).elim (fun q => by rw [q]; exact in01 a3) (hs x)
    refine ⟨okRn_app _ _ _ k1.1 (by rw [k1.2]; exact ⟨⟨hs2, by rw [if_neg (by decide), if_neg (by decide), if_pos (by decide)]; exact ⟨rfl, va, st, rfl, a3⟩⟩, trivial⟩), ?_⟩
    rw [evL_app, k1.2]
    show ev1 e (-33) (va :: st) = _
    unfold ev1
    rw [if_neg (by decide), if_neg (by decide), if_pos (by decide)]
  · obtain ⟨a1, a2, va, a3, a4⟩ := ha
    obtain ⟨b1, b2, vb, b3, b4⟩ := hb
    have h := two_P (Or.inr (Or.inr ⟨ht, a3, b3⟩)) a1 a2 (in01 a3) a4 b1 b2 (in01 b3) b4
    rw [List.append_assoc]
    refine ⟨h.1, h.2.1, _, ?_, h.2.2⟩
    unfold isLoT at ht
    rcases ht with rfl | rfl <;> rcases a3 with rfl | rfl <;> rcases b3 with rfl | rfl <;> decide
/-- WORTH of a law's clauses -/
def hd0 (l : List Int) : Int := match l with
  | v :: _ => v
  | [] => 0
def wth (e : Int → Int) : List (List Int × List Int) → Int
  | [] => 0
  | p :: r => if p.1 = [] ∨ ¬ hd0 (evL e p.1 []) = 0 then hd0 (evL e p.2 []) else wth e r
/-- the letters: the DAY, it modulo 7, the METRONOME, the PLAYERS, DAMP of the DAY ahead -/
def envI (d mt pl o : Int) : Int → Int := fun j => if j = 0 then d else if j = 1 then d.tmod 7 else if j = 2 then mt else if j = 3 then pl else o
def dyN (cs : List (List Int × List Int)) (mt pl : Int) : Nat → Int
  | 0 => max 0 (min 9 (wth (envI 0 mt pl 0) cs))
  | d + 1 => max 0 (min 9 (wth (envI ((d : Int) + 1) mt pl (dyN cs mt pl d)) cs))
def dyI (cs : List (List Int × List Int)) (mt pl d : Int) : Int := dyN cs mt pl d.toNat
theorem dyI_0 {cs : List (List Int × List Int)} {mt pl : Int} : dyI cs mt pl 0 = max 0 (min 9 (wth (envI 0 mt pl 0) cs)) := rfl
theorem dyI_S {cs : List (List Int × List Int)} {mt pl d : Int} (h : 0 ≤ d) : dyI cs mt pl (d + 1) = max 0 (min 9 (wth (envI (d + 1) mt pl (dyI cs mt pl d)) cs)) := by
  unfold dyI
  rw [toNat_S h, dyN, toNat_c h]
theorem dyI_in {cs : List (List Int × List Int)} {mt pl : Int} : ∀ d : Int, 0 ≤ d → 0 ≤ dyI cs mt pl d ∧ dyI cs mt pl d ≤ 9 := by
  refine upI ?_ (fun d hd _ => ?_)
  · rw [dyI_0]; omega
  · rw [dyI_S hd]; omega
theorem envI_in {d mt pl o : Int} (hd : inB d) (hm : inB mt) (hp : inB pl) (ho : inB o) : ∀ j, inB (envI d mt pl o j) := by
  intro j
  unfold envI
  repeat' split
  · exact hd
  · have h1 := Int.tmod_lt_of_pos d (b := 7) (by decide)
    have h2 := Int.lt_tmod_of_pos d (b := 7) (by decide)
    unfold inB; omega
  · exact hm
  · exact hp
  · exact ho
/-- a law that was read -/
def okLaw (cs : List (List Int × List Int)) : Prop := ∀ P Q : List Int → Prop, clP P Q → ∀ p ∈ cs, gC P Q p
theorem okLaw_read {T : Int → Int} {n : Int} {cs : List (List Int × List Int)} (hn : n ≤ 160) (h0 : 0 ≤ n) (h : pLawLS T n 161 0 [] = .inr cs) : okLaw cs := fun P Q C => pLawLS_P C hn 161 0 [] (by omega) h0 (fun p hp => by cases hp) cs h
