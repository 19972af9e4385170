/- 38.rq2.lean.txt -/
section pt_38rq2
/-! bits of sets of players; steps of following -/
def nb6 (s : Int) : Int := (if zAnd (zShr s 0) 1 = 1 then 0 else 1) + (if zAnd (zShr s 1) 1 = 1 then 0 else 1) + (if zAnd (zShr s 2) 1 = 1 then 0 else 1) + (if zAnd (zShr s 3) 1 = 1 then 0 else 1) + (if zAnd (zShr s 4) 1 = 1 then 0 else 1) + (if zAnd (zShr s 5) 1 = 1 then 0 else 1)
theorem sb6_all : ∀ s : Fin 64, ∀ k : Fin 6, (zAnd (zShr (s.val : Int) (k.val : Int)) 1 = 1 ∨ nb6 (zOr (s.val : Int) (zShl 1 (k.val : Int))) = nb6 (s.val : Int) - 1) ∧ 0 ≤ zOr (s.val : Int) (zShl 1 (k.val : Int)) ∧ zOr (s.val : Int) (zShl 1 (k.val : Int)) < 64 ∧ 0 ≤ nb6 (s.val : Int) := by decide +kernel
theorem sb6 {s k : Int} (hs : 0 ≤ s ∧ s < 64) (hk : 0 ≤ k ∧ k ≤ 5) (h : zMk s k = false) : nb6 (zOr s (zShl 1 k)) = nb6 s - 1 ∧ (0 ≤ zOr s (zShl 1 k) ∧ zOr s (zShl 1 k) < 64) ∧ 0 ≤ nb6 s := by
  have h2 := sb6_all ⟨s.toNat, by omega⟩ ⟨k.toNat, by omega⟩
  dsimp only at h2
  rw [toNat_c hs.1, toNat_c hk.1] at h2
  have h3 : ¬ zAnd (zShr s k) 1 = 1 := of_decide_eq_false h
  obtain ⟨a, b, c, d⟩ := h2
  exact ⟨a.resolve_left h3, ⟨b, c⟩, d⟩
def itN (F : Int → Int) : Nat → Int → Int
  | 0, x => x
  | k + 1, x => if itN F k x = -1 then -1 else F (itN F k x)
def itI (F : Int → Int) (k x : Int) : Int := itN F k.toNat x
theorem itI_0 {F : Int → Int} {x : Int} : itI F 0 x = x := rfl
theorem itI_S {F : Int → Int} {k x : Int} (hk : 0 ≤ k) : itI F (k + 1) x = if itI F k x = -1 then -1 else F (itI F k x) := by
  unfold itI
  rw [toNat_S hk, itN]
theorem itI_end {F : Int → Int} {k x : Int} (hk : 0 ≤ k) (h : itI F k x = -1) : ∀ j, 0 ≤ j → k ≤ j → itI F j x = -1 := by
  refine upI (fun h2 => by rw [show (0 : Int) = k by omega]; exact h) (fun j hj ih h2 => ?_)
  by_cases e : j + 1 = k
  · rw [e]; exact h
  · rw [itI_S hj, ih (by omega), if_pos rfl]
/-- those met until one comes again -/
def rgN (F : Int → Int) : Nat → Int → Int → Int
  | 0, s, _ => s
  | k + 1, s, a => if a = -1 ∨ zMk s a = true then s else rgN F k (zOr s (zShl 1 a)) (F a)
def aRingR (pl : Int) (F : Int → Int) (p : Int) : Int := if 0 ≤ p ∧ p < pl then rgN F 7 0 (itI F pl p) else -1
def hdN (F : Int → Int) : Nat → Int → Int
  | 0, _ => -1
  | k + 1, a => if F a = -1 then a else hdN F k (F a)
def aHeadR (pl : Int) (F : Int → Int) (p : Int) : Int := if 0 ≤ p ∧ p < pl then hdN F pl.toNat p else -1
theorem uZ_id {α : Type} {f : Int → α} {k : Int} : uZ f k (f k) = f := by
  funext x
  unfold uZ
  by_cases h : x = k
  · rw [if_pos h, h]
  · rw [if_neg h]
theorem pd_yes {P : Int → Prop} {v be : Int} (hv : -1 ≤ v ∧ v ≤ 50) (hq : P v) (h : (be = -1 ∧ ∀ x, v < x → x ≤ 50 → ¬ P x) ∨ (v < be ∧ be ≤ 50 ∧ P be ∧ ∀ x, v < x → x < be → ¬ P x)) : (v = -1 ∧ ∀ x, v + -1 < x → x ≤ 50 → ¬ P x) ∨ (v + -1 < v ∧ v ≤ 50 ∧ P v ∧ ∀ x, v + -1 < x → x < v → ¬ P x) :=
  Or.inr ⟨by omega, by omega, hq, fun x h0 h1 => by omega⟩
theorem pd_no {P : Int → Prop} {v be : Int} (hv : -1 ≤ v ∧ v ≤ 50) (hq : ¬ P v) (h : (be = -1 ∧ ∀ x, v < x → x ≤ 50 → ¬ P x) ∨ (v < be ∧ be ≤ 50 ∧ P be ∧ ∀ x, v < x → x < be → ¬ P x)) : (be = -1 ∧ ∀ x, v + -1 < x → x ≤ 50 → ¬ P x) ∨ (v + -1 < be ∧ be ≤ 50 ∧ P be ∧ ∀ x, v + -1 < x → x < be → ¬ P x) := by
  have key : ∀ x, v + -1 < x → x = v ∨ v < x := fun x h => by omega
  rcases h with ⟨a, b⟩ | ⟨a, b, c, d⟩
  · exact Or.inl ⟨a, fun x h0 h1 => (key x h0).elim (fun e => by rw [e]; exact hq) (fun e => b x e h1)⟩
  · exact Or.inr ⟨by omega, b, c, fun x h0 h1 => (key x h0).elim (fun e => by rw [e]; exact hq) (fun e => d x e h1)⟩
theorem pd_end {P : Int → Prop} {v be : Int} (h : (be = -1 ∧ ∀ x, v < x → x ≤ 50 → ¬ P x) ∨ (v < be ∧ be ≤ 50 ∧ P be ∧ ∀ x, v < x → x < be → ¬ P x)) (hv : v < 0) (hv2 : -1 ≤ v := by omega) : (be = -1 ∧ ∀ x, 0 ≤ x → x ≤ 50 → ¬ P x) ∨ (0 ≤ be ∧ be ≤ 50 ∧ P be ∧ ∀ x, 0 ≤ x → x < be → ¬ P x) := by
  rcases h with ⟨a, b⟩ | ⟨a, b, c, d⟩
  · exact Or.inl ⟨a, fun x h0 h1 => b x (by omega) h1⟩
  · exact Or.inr ⟨by omega, b, c, fun x h0 h1 => d x (by omega) h1⟩
section FB
variable {pl n ec mk rl p f st : Int} {Fo Ho B0 Lt P1 B1 T1 : Int → Int}
theorem fb_same (hf : -1 ≤ f) (h : (f = -1 ∧ st = 0) ∨ (0 ≤ f ∧ st = fiB pl n ec mk Fo Ho B0 Lt rl P1 B1 T1 p f.toNat)) (e : f = p ∧ 0 ≤ p) : (f + 1 = -1 ∧ st = 0) ∨ (0 ≤ f + 1 ∧ st = fiB pl n ec mk Fo Ho B0 Lt rl P1 B1 T1 p (f + 1).toNat) := by
  rcases h with h | h
  · exfalso; omega
  · refine Or.inr ⟨by omega, ?_⟩
    rw [toNat_S h.1, fiB, toNat_c h.1, if_neg (fun h9 => h9.1 e.1)]
    exact h.2
theorem fb_no (hf : -1 ≤ f) (h : (f = -1 ∧ st = 0) ∨ (0 ≤ f ∧ st = fiB pl n ec mk Fo Ho B0 Lt rl P1 B1 T1 p f.toNat)) (e : f ≠ p) (hr : inR st) (hq : agB pl n ec mk Fo Ho B0 Lt rl P1 B1 T1 p f = false) : (f + 1 = -1 ∧ zOr st 0 = 0) ∨ (0 ≤ f + 1 ∧ zOr st 0 = fiB pl n ec mk Fo Ho B0 Lt rl P1 B1 T1 p (f + 1).toNat) := by
  rw [zOr_0 hr]
  refine Or.inr ⟨by omega, ?_⟩
  rcases h with ⟨h1, h2⟩ | ⟨h1, h2⟩
  · subst h1
    show st = fiB pl n ec mk Fo Ho B0 Lt rl P1 B1 T1 p 0
    rw [fiB, hq, if_neg (by decide)]
    exact h2
  · rw [toNat_S h1, fiB, toNat_c h1, hq, if_neg (fun h9 => by cases h9.2)]
    exact h2
theorem fb_nb (hf : -1 ≤ f) (h : (f = -1 ∧ st = 0) ∨ (0 ≤ f ∧ st = fiB pl n ec mk Fo Ho B0 Lt rl P1 B1 T1 p f.toNat)) (e : f = -1) (hr : inR st) (hq : agB pl n ec mk Fo Ho B0 Lt rl P1 B1 T1 p f = true) : (f + 1 = -1 ∧ zOr st (zShl 1 6) = 0) ∨ (0 ≤ f + 1 ∧ zOr st (zShl 1 6) = fiB pl n ec mk Fo Ho B0 Lt rl P1 B1 T1 p (f + 1).toNat) := by
  refine Or.inr ⟨by omega, ?_⟩
  rcases h with ⟨h1, h2⟩ | ⟨h1, h2⟩
  · subst h1
    show zOr st (zShl 1 6) = fiB pl n ec mk Fo Ho B0 Lt rl P1 B1 T1 p 0
    rw [fiB, hq, if_pos rfl, h2]
    decide
  · exfalso; omega
theorem fb_yes (hf : -1 ≤ f) (h : (f = -1 ∧ st = 0) ∨ (0 ≤ f ∧ st = fiB pl n ec mk Fo Ho B0 Lt rl P1 B1 T1 p f.toNat)) (e : f ≠ p ∧ f ≠ -1) (hr : inR st) (hq : agB pl n ec mk Fo Ho B0 Lt rl P1 B1 T1 p f = true) : (f + 1 = -1 ∧ zOr st (zShl 1 f) = 0) ∨ (0 ≤ f + 1 ∧ zOr st (zShl 1 f) = fiB pl n ec mk Fo Ho B0 Lt rl P1 B1 T1 p (f + 1).toNat) := by
  refine Or.inr ⟨by omega, ?_⟩
  rcases h with ⟨h1, h2⟩ | ⟨h1, h2⟩
  · exfalso; omega
  · rw [toNat_S h1, fiB, toNat_c h1, hq, if_pos ⟨e.1, rfl⟩, ← h2]
end FB
section EH
variable {pl n mk e9 be le : Int} {Fo Ho B0 Lt : Int → Int}
theorem eh_step (he : 0 ≤ e9) (h : (e9 = 0 ∧ be = 0 ∧ le = 0) ∨ (1 ≤ e9 ∧ ehI pl n mk Fo Ho B0 Lt (e9 - 1) = (be, le))) (c : e9 = 0 ∨ WO pl n e9 mk Fo Ho B0 Lt < le) : (e9 + 1 = 0 ∧ e9 = 0 ∧ WO pl n e9 mk Fo Ho B0 Lt = 0) ∨ (1 ≤ e9 + 1 ∧ ehI pl n mk Fo Ho B0 Lt (e9 + 1 - 1) = (e9, WO pl n e9 mk Fo Ho B0 Lt)) := by
  refine Or.inr ⟨by omega, ?_⟩
  rw [Int.add_sub_cancel]
  rcases h with ⟨a, b, d⟩ | ⟨a, b⟩
  · rw [a]; exact ehI_0
  · have e : ehI pl n mk Fo Ho B0 Lt (e9 - 1 + 1) = _ := ehI_S (by omega)
    rw [Int.sub_add_cancel, b] at e
    rw [e, if_pos (by dsimp only; omega)]
theorem eh_keep (he : 0 ≤ e9) (h : (e9 = 0 ∧ be = 0 ∧ le = 0) ∨ (1 ≤ e9 ∧ ehI pl n mk Fo Ho B0 Lt (e9 - 1) = (be, le))) (c0 : e9 ≠ 0) (c : le ≤ WO pl n e9 mk Fo Ho B0 Lt) : (e9 + 1 = 0 ∧ be = 0 ∧ le = 0) ∨ (1 ≤ e9 + 1 ∧ ehI pl n mk Fo Ho B0 Lt (e9 + 1 - 1) = (be, le)) := by
  refine Or.inr ⟨by omega, ?_⟩
  rw [Int.add_sub_cancel]
  rcases h with ⟨a, b, d⟩ | ⟨a, b⟩
  · exact absurd a c0
  · have e : ehI pl n mk Fo Ho B0 Lt (e9 - 1 + 1) = _ := ehI_S (by omega)
    rw [Int.sub_add_cancel, b] at e
    rw [e, if_neg (by dsimp only; omega)]
end EH
section TU
variable {P : Int → Int} {hw be le lim q w z : Int}
theorem tu_big (h0 : 0 ≤ hw) (h : (be = -1 ∧ ∀ x, 0 ≤ x → x < hw → lim < P x) ∨ (0 ≤ be ∧ be < hw ∧ P be ≤ lim ∧ le = P be ∧ ∀ x, 0 ≤ x → x < hw → P x ≤ lim → (be - q).natAbs < (x - q).natAbs ∨ (be - q).natAbs = (x - q).natAbs ∧ be ≤ x)) (c : lim < P hw) :
    (be = -1 ∧ ∀ x, 0 ≤ x → x < hw + 1 → lim < P x) ∨ (0 ≤ be ∧ be < hw + 1 ∧ P be ≤ lim ∧ le = P be ∧ ∀ x, 0 ≤ x → x < hw + 1 → P x ≤ lim → (be - q).natAbs < (x - q).natAbs ∨ (be - q).natAbs = (x - q).natAbs ∧ be ≤ x) := by
  rcases h with ⟨a, b⟩ | ⟨a, b, d, e, g⟩
  · refine Or.inl ⟨a, fun x x0 x1 => ?_⟩
    by_cases r : x = hw
    · rw [r]; exact c
    · exact b x x0 (by omega)
  · refine Or.inr ⟨a, by omega, d, e, fun x x0 x1 x2 => ?_⟩
    by_cases r : x = hw
    · rw [r] at x2; omega
    · exact g x x0 (by omega) x2
theorem tu_new (h0 : 0 ≤ hw) (h : (be = -1 ∧ ∀ x, 0 ≤ x → x < hw → lim < P x) ∨ (0 ≤ be ∧ be < hw ∧ P be ≤ lim ∧ le = P be ∧ ∀ x, 0 ≤ x → x < hw → P x ≤ lim → (be - q).natAbs < (x - q).natAbs ∨ (be - q).natAbs = (x - q).natAbs ∧ be ≤ x)) (c : P hw ≤ lim) (c2 : be = -1 ∨ (hw - q).natAbs < (be - q).natAbs) :
    (hw = -1 ∧ ∀ x, 0 ≤ x → x < hw + 1 → lim < P x) ∨ (0 ≤ hw ∧ hw < hw + 1 ∧ P hw ≤ lim ∧ P hw = P hw ∧ ∀ x, 0 ≤ x → x < hw + 1 → P x ≤ lim → (hw - q).natAbs < (x - q).natAbs ∨ (hw - q).natAbs = (x - q).natAbs ∧ hw ≤ x) := by
  refine Or.inr ⟨h0, by omega, c, rfl, fun x x0 x1 x2 => ?_⟩
  by_cases r : x = hw
  · rw [r]; omega
  · rcases h with ⟨a, b⟩ | ⟨a, b, d, e, g⟩
    · have := b x x0 (by omega); omega
    · have := g x x0 (by omega) x2; omega
theorem tu_old (h0 : 0 ≤ hw) (h : (be = -1 ∧ ∀ x, 0 ≤ x → x < hw → lim < P x) ∨ (0 ≤ be ∧ be < hw ∧ P be ≤ lim ∧ le = P be ∧ ∀ x, 0 ≤ x → x < hw → P x ≤ lim → (be - q).natAbs < (x - q).natAbs ∨ (be - q).natAbs = (x - q).natAbs ∧ be ≤ x)) (c : P hw ≤ lim) (c2 : be ≠ -1 ∧ (be - q).natAbs ≤ (hw - q).natAbs) :
    (be = -1 ∧ ∀ x, 0 ≤ x → x < hw + 1 → lim < P x) ∨ (0 ≤ be ∧ be < hw + 1 ∧ P be ≤ lim ∧ le = P be ∧ ∀ x, 0 ≤ x → x < hw + 1 → P x ≤ lim → (be - q).natAbs < (x - q).natAbs ∨ (be - q).natAbs = (x - q).natAbs ∧ be ≤ x) := by
  rcases h with ⟨a, b⟩ | ⟨a, b, d, e, g⟩
  · exact absurd a c2.1
  · refine Or.inr ⟨a, by omega, d, e, fun x x0 x1 x2 => ?_⟩
    by_cases r : x = hw
    · rw [r]; omega
    · exact g x x0 (by omega) x2
theorem tu_end (h : (be = -1 ∧ ∀ x, 0 ≤ x → x < hw → lim < P x) ∨ (0 ≤ be ∧ be < hw ∧ P be ≤ lim ∧ le = P be ∧ ∀ x, 0 ≤ x → x < hw → P x ≤ lim → (be - q).natAbs < (x - q).natAbs ∨ (be - q).natAbs = (x - q).natAbs ∧ be ≤ x)) (e : hw = 11) (hz : (be = -1 ∧ z = be) ∨ (be ≠ -1 ∧ w = 0 ∧ z = be) ∨ (be ≠ -1 ∧ w ≠ 0 ∧ z = le)) :
    ((∀ h, 0 ≤ h → h ≤ 10 → lim < P h) ∧ z = -1) ∨ ∃ h, 0 ≤ h ∧ h ≤ 10 ∧ P h ≤ lim ∧ (∀ k, 0 ≤ k → k ≤ 10 → P k ≤ lim → (h - q).natAbs < (k - q).natAbs ∨ (h - q).natAbs = (k - q).natAbs ∧ h ≤ k) ∧ z = if w = 0 then h else P h := by
  rcases h with ⟨a, b⟩ | ⟨a, b, d, e2, g⟩
  · exact Or.inl ⟨fun x h0 h1 => b x h0 (by omega), by omega⟩
  · refine Or.inr ⟨be, a, by omega, d, fun k k0 k1 k2 => g k k0 (by omega) k2, ?_⟩
    split <;> omega
end TU
set_option maxHeartbeats 4000000 in
set_option maxRecDepth 100000 in
theorem kX12_isAloneLast (l : Launch) (h0 : Nat) (f : Nat → AV) (pl : Int) (n : Int) (ec : Int) (mk : Int) (hQ : Nat) (hB : Nat) (hE : Nat) (hA : Nat) (hM : Nat) (hW : Nat) (Q : Int → Int) (B : Int → Int) (E : Int → Int) (Ab : Int → Int) (Mt : Int → Int) (Wt : Int → Int) (pp : Int) (hf0 : f 21 = iv pl) (hf1 : f 28 = iv n) (hf2 : f 29 = iv ec) (hf3 : f 26 = iv mk) (hf4 : f 20 = rv hQ) (hf5 : f 23 = rv hB) (hf6 : f 24 = rv hE) (hf7 : f 33 = rv hA) (hf8 : f 34 = rv hM) (hf9 : f 35 = rv hW) (hok : okS pl n ec (c5 Q 3) (c5 Q 4) B E) (hp : 0 ≤ pp ∧ pp < pl) : AMi l yX12_isAloneLast cX12_isAloneLast 4 .boolean 4 0 0 [rv h0, iv pp] [(h0, ob 11 f), (hQ, ar 30 Q), (hB, ar 6 B), (hE, ar 6 E), (hA, ar 1206 Ab), (hM, ar 180 Mt), (hW, ar 180 Wt)] (fun z u => (∃ A2 : Int → Int, ∃ M2 : Int → Int, ∃ W2 : Int → Int, z = 0 ∧ u = [(h0, ob 11 f), (hQ, ar 30 Q), (hB, ar 6 B), (hE, ar 6 E), (hA, ar 1206 A2), (hM, ar 180 M2), (hW, ar 180 W2)] ∧ (¬ (∀ o, 0 ≤ o → o < pl → o ≠ pp → ((tS pl ec mk (c5 Q 3) (c5 Q 4) B E) (n - 1)) o < ((tS pl ec mk (c5 Q 3) (c5 Q 4) B E) (n - 1)) pp))) ∨ (∃ A2 : Int → Int, ∃ M2 : Int → Int, ∃ W2 : Int → Int, z = 1 ∧ u = [(h0, ob 11 f), (hQ, ar 30 Q), (hB, ar 6 B), (hE, ar 6 E), (hA, ar 1206 A2), (hM, ar 180 M2), (hW, ar 180 W2)] ∧ (∀ o, 0 ≤ o → o < pl → o ≠ pp → ((tS pl ec mk (c5 Q 3) (c5 Q 4) B E) (n - 1)) o < ((tS pl ec mk (c5 Q 3) (c5 Q 4) B E) (n - 1)) pp))) := by
  refine AMi.of2 rfl (nle rfl) ?_
  intro D G A p e s m args below meth c Po hPo X
  have hpl := hok.2.1
  have hpl1 := hok.1
  have hn1 := hok.2.2.1
  have hn2 := hok.2.2.2.1
  have hec := hok.2.2.2.2
  refine S_aload_n X dX12_isAloneLast_0 rfl rfl ?_
  refine S_callv X (kX12_play l h0 f pl n ec mk hQ hB hE hA hM hW Q B E Ab Mt Wt hf0 hf1 hf2 hf3 hf4 hf5 hf6 hf7 hf8 hf9 (by omega)) (is := [0, 1, 2, 3, 4, 5, 6]) rfl (run_V X lkX12_312 0 rfl rfl (is := [0, 1, 2, 3, 4, 5, 6]) (avs := []) (rest := []) rfl rfl (nle rfl) ⟨nle rfl, nle rfl⟩ ⟨nle rfl, nle rfl⟩ dX12_isAloneLast_1 (by decide) rfl) (fun u_1 hp_2 => ?_)
  obtain ⟨A2_4, M2_5, W2_6, hu_8, hA2_9, hM2_10, hW2_11⟩ := hp_2
  subst hu_8
  refine ⟨rfl, ?_⟩
  refine S_w (ws' := [(h0, ob 11 f), (hQ, ar 30 Q), (hB, ar 6 B), (hE, ar 6 E), (hA, ar 1206 A2_4), (hM, ar 180 M2_5), (hW, ar 180 W2_6)]) rfl ?_
  have hAL := hA2_9
  have hML := hM2_10
  have hWL := hW2_11
  refine S_aload_n X dX12_isAloneLast_4 rfl rfl ?_
  refine S_get X fgX12_56_11 0 rfl hf1 dX12_isAloneLast_5 ?_
  refine S_iconst X dX12_isAloneLast_8 ?_
  refine S_isub X dX12_isAloneLast_9 ?_
  refine S_istore_n X dX12_isAloneLast_10 rfl (nle rfl) ?_
  refine S_iconst X dX12_isAloneLast_11 ?_
  refine S_istore_n X dX12_isAloneLast_12 rfl (nle rfl) ?_
  have lp13_0 : ∀ (N : Nat) (o : Int) (L : Nat → Option AV), 0 ≤ o ∧ o ≤ pl → (∀ y, 0 ≤ y → y < o → y ≠ pp → ((tS pl ec mk (c5 Q 3) (c5 Q 4) B E) (n - 1)) y < ((tS pl ec mk (c5 Q 3) (c5 Q 4) B E) (n - 1)) pp) → L 0 = some (rv h0) → L 1 = some (iv pp) → L 2 = some (iv (n - 1)) → L 3 = some (iv o) → pl + 1 - o < (N : Int) → S_ p l e (rmD 4 0 0) s m args below meth c (MQ below (QcI D G A Po) args s 0 0 A) D G A 4 0 0 13 L [] [(h0, ob 11 f), (hQ, ar 30 Q), (hB, ar 6 B), (hE, ar 6 E), (hA, ar 1206 A2_4), (hM, ar 180 M2_5), (hW, ar 180 W2_6)] := by
    intro N
    induction N with
    | zero =>
      intro o L13 ho hal hL13_0 hL13_1 hL13_2 hL13_3 hN13
      exfalso; omega
    | succ N ih13 =>
      intro o L13 ho hal hL13_0 hL13_1 hL13_2 hL13_3 hN13
      refine S_iload_n X dX12_isAloneLast_13 rfl hL13_3 ?_
      refine S_aload_n X dX12_isAloneLast_14 rfl hL13_0 ?_
      refine S_get X fgX12_253_11 0 rfl hf0 dX12_isAloneLast_15 ?_
      refine S_icmp_ge (tgt := 59) X dX12_isAloneLast_18 (by decide) (by omega) (by omega) (fun c_12 => ?_) (fun c_12 => ?_)
      ·
        refine S_iconst X dX12_isAloneLast_59 ?_
        exact S_zret X (Or.inr rfl) (nle rfl) (nle rfl) dX12_isAloneLast_60 (hPo _ _ (Or.inr ⟨_, _, _, rfl, rfl, fun y h0 h1 hne => hal y h0 (by omega) hne⟩))
      ·
        refine S_iload_n X dX12_isAloneLast_21 rfl hL13_3 ?_
        refine S_iload_n X dX12_isAloneLast_22 rfl hL13_1 ?_
        refine S_icmp_eq (tgt := 53) X dX12_isAloneLast_23 (by decide) (by omega) (by omega) (fun c_13 => ?_) (fun c_13 => ?_)
        ·
          refine S_iinc X dX12_isAloneLast_53 (nle rfl) hL13_3 ?_
          refine S_goto (tgt := 13) X dX12_isAloneLast_56 (by decide) ?_
          exact ih13 (o + 1) _ (by omega) (fun y h0 h1 hne => (by omega : y < o ∨ y = o).elim (fun q9 => hal y h0 q9 hne) (fun q9 => by subst q9; first | exact absurd (by assumption) hne | omega)) hL13_0 hL13_1 hL13_2 rfl (by omega)
        ·
          have h1 := hML.at (z := 6 * (n - 1) + o) (x := n - 1) (y := o) rfl (by omega) (by omega) (by omega) (by omega)
          have h2 := hML.at (z := 6 * (n - 1) + pp) (x := n - 1) (y := pp) rfl (by omega) (by omega) (by omega) (by omega)
          have h3 := hok.time (mk := mk) (n - 1) o (by omega) (by omega) (by omega)
          have h4 := hok.time (mk := mk) (n - 1) pp (by omega) (by omega) (by omega)
          refine S_aload_n X dX12_isAloneLast_26 rfl hL13_0 ?_
          refine S_get X fgX12_68_11 0 rfl hf8 dX12_isAloneLast_27 ?_
          refine S_bipush X dX12_isAloneLast_30 rfl ?_
          refine S_iload_n X dX12_isAloneLast_32 rfl hL13_2 ?_
          refine S_imul X dX12_isAloneLast_33 ?_
          refine S_iload_n X dX12_isAloneLast_34 rfl hL13_3 ?_
          refine S_iadd X dX12_isAloneLast_35 ?_
          refine S_iald X 5 rfl (by omega) (by omega) (nle rfl) dX12_isAloneLast_36 ?_
          refine S_aload_n X dX12_isAloneLast_37 rfl hL13_0 ?_
          refine S_get X fgX12_68_11 0 rfl hf8 dX12_isAloneLast_38 ?_
          refine S_bipush X dX12_isAloneLast_41 rfl ?_
          refine S_iload_n X dX12_isAloneLast_43 rfl hL13_2 ?_
          refine S_imul X dX12_isAloneLast_44 ?_
          refine S_iload_n X dX12_isAloneLast_45 rfl hL13_1 ?_
          refine S_iadd X dX12_isAloneLast_46 ?_
          refine S_iald X 5 rfl (by omega) (by omega) (nle rfl) dX12_isAloneLast_47 ?_
          refine S_icmp_lt (tgt := 53) X dX12_isAloneLast_48 (by decide) (by omega) (by omega) (fun c_14 => ?_) (fun c_14 => ?_)
          ·
            refine S_iinc X dX12_isAloneLast_53 (nle rfl) hL13_3 ?_
            refine S_goto (tgt := 13) X dX12_isAloneLast_56 (by decide) ?_
            exact ih13 (o + 1) _ (by omega) (fun y h0 h1 hne => (by omega : y < o ∨ y = o).elim (fun q9 => hal y h0 q9 hne) (fun q9 => by subst q9; first | exact absurd (by assumption) hne | omega)) hL13_0 hL13_1 hL13_2 rfl (by omega)
          ·
            refine S_iconst X dX12_isAloneLast_51 ?_
            exact S_zret X (Or.inl rfl) (nle rfl) (nle rfl) dX12_isAloneLast_52 (hPo _ _ (Or.inl ⟨_, _, _, rfl, rfl, fun h9 => by have := h9 o (by omega) (by omega) (by omega); omega⟩))
  exact lp13_0 (Int.toNat (pl + 1 - 0) + 1) 0 _ (by omega) (fun y h0 h1 => by omega) rfl rfl rfl rfl (by omega)
set_option maxHeartbeats 4000000 in
set_option maxRecDepth 100000 in
theorem kX12_paid (l : Launch) (h0 : Nat) (f : Nat → AV) (pl : Int) (n : Int) (ec : Int) (mk : Int) (hQ : Nat) (hB : Nat) (hE : Nat) (hA : Nat) (hM : Nat) (hW : Nat) (Q : Int → Int) (B : Int → Int) (E : Int → Int) (Ab : Int → Int) (Mt : Int → Int) (Wt : Int → Int) (pp : Int) (hf0 : f 21 = iv pl) (hf1 : f 28 = iv n) (hf2 : f 29 = iv ec) (hf3 : f 26 = iv mk) (hf4 : f 20 = rv hQ) (hf5 : f 23 = rv hB) (hf6 : f 24 = rv hE) (hf7 : f 33 = rv hA) (hf8 : f 34 = rv hM) (hf9 : f 35 = rv hW) (hz : okZ pl n ec (c5 Q 3) (c5 Q 4) B E) (hx_pp : inR pp) : AMi l yX12_paid cX12_paid 5 .int 5 0 0 [rv h0, iv pp] [(h0, ob 11 f), (hQ, ar 30 Q), (hB, ar 6 B), (hE, ar 6 E), (hA, ar 1206 Ab), (hM, ar 180 Mt), (hW, ar 180 Wt)] (fun z u => ∃ z9 : Int, ∃ A2 : Int → Int, ∃ M2 : Int → Int, ∃ W2 : Int → Int, z = z9 ∧ u = [(h0, ob 11 f), (hQ, ar 30 Q), (hB, ar 6 B), (hE, ar 6 E), (hA, ar 1206 A2), (hM, ar 180 M2), (hW, ar 180 W2)] ∧ rPaid pl n ec mk (c5 Q 3) (c5 Q 4) B E pp z9) := by
  refine AMi.of2 rfl (nle rfl) ?_
  intro D G A p e s m args below meth c Po hPo X
  have hz6 := hz.2.1
  have hz0 := hz.1
  have hzn := hz.2.2.1
  have hzm := hz.2.2.2.1
  have hze := hz.2.2.2.2
  refine S_aload_n X dX12_paid_0 rfl rfl ?_
  refine S_iload_n X dX12_paid_1 rfl rfl ?_
  refine S_calli X (kX12_isPlayer l h0 f pl pp hf0 (by omega) (by omega)) (is := [0]) rfl (run_V X lkX12_281 0 rfl rfl (is := [0]) (avs := [iv pp]) (rest := []) rfl rfl (nle rfl) ⟨nle rfl, nle rfl⟩ ⟨nle rfl, nle rfl⟩ dX12_paid_2 (by decide) rfl) (fun z_3 u_1 hp_2 => ?_)
  rcases hp_2 with ⟨hz_4, hu_5, hq_6⟩ | ⟨hz_7, hu_8, hq_9⟩
  ·
    subst hz_4
    subst hu_5
    refine ⟨rfl, ?_⟩
    refine S_w (ws' := [(h0, ob 11 f), (hQ, ar 30 Q), (hB, ar 6 B), (hE, ar 6 E), (hA, ar 1206 Ab), (hM, ar 180 Mt), (hW, ar 180 Wt)]) rfl ?_
    refine S_if_ne (tgt := 10) X dX12_paid_5 (by decide) (by decide) (fun h9 => absurd h9 (by decide)) (fun _ => ?_)
    refine S_iconst X dX12_paid_8 ?_
    exact S_iret X (nle rfl) (nle rfl) dX12_paid_9 (hPo _ _ (⟨_, _, _, _, rfl, rfl, Or.inl ⟨by omega, rfl⟩⟩))
  ·
    subst hz_7
    subst hu_8
    refine ⟨rfl, ?_⟩
    refine S_w (ws' := [(h0, ob 11 f), (hQ, ar 30 Q), (hB, ar 6 B), (hE, ar 6 E), (hA, ar 1206 Ab), (hM, ar 180 Mt), (hW, ar 180 Wt)]) rfl ?_
    refine S_if_ne (tgt := 10) X dX12_paid_5 (by decide) (by decide) (fun _ => ?_) (fun h9 => absurd h9 (by decide))
    have hok := hz.s (by omega)
    have hpl := hok.2.1
    have hpl1 := hok.1
    have hn1 := hok.2.2.1
    have hn2 := hok.2.2.2.1
    have hec := hok.2.2.2.2
    refine S_aload_n X dX12_paid_10 rfl rfl ?_
    refine S_get X fgX12_49_11 0 rfl hf6 dX12_paid_11 ?_
    refine S_iload_n X dX12_paid_14 rfl rfl ?_
    refine S_iald X 3 rfl (by omega) (by omega) (nle rfl) dX12_paid_15 ?_
    refine S_istore_n X dX12_paid_16 rfl (nle rfl) ?_
    refine S_iconst X dX12_paid_17 ?_
    refine S_istore_n X dX12_paid_18 rfl (nle rfl) ?_
    refine S_bipush X dX12_paid_19 rfl ?_
    refine S_istore X dX12_paid_21 (nle rfl) ?_
    have lp23_1 : ∀ (N : Nat) (v : Int) (be : Int) (Ev : Int → Int) (Aw : Int → Int) (Mw : Int → Int) (Ww : Int → Int) (L : Nat → Option AV), -1 ≤ v ∧ v ≤ 50 → (∀ x, uZ Ev pp x = uZ E pp x) → ((be = -1 ∧ ∀ x, v < x → x ≤ 50 → ¬ alL pl n ec mk (c5 Q 3) (c5 Q 4) B E pp x) ∨ (v < be ∧ be ≤ 50 ∧ alL pl n ec mk (c5 Q 3) (c5 Q 4) B E pp be ∧ ∀ x, v < x → x < be → ¬ alL pl n ec mk (c5 Q 3) (c5 Q 4) B E pp x)) → L 0 = some (rv h0) → L 1 = some (iv pp) → L 2 = some (iv (E pp)) → L 3 = some (iv be) → L 4 = some (iv v) → v + 2 < (N : Int) → S_ p l e (rmD 5 0 0) s m args below meth c (MQ below (QcI D G A Po) args s 0 0 A) D G A 5 0 0 23 L [] [(h0, ob 11 f), (hQ, ar 30 Q), (hB, ar 6 B), (hE, ar 6 Ev), (hA, ar 1206 Aw), (hM, ar 180 Mw), (hW, ar 180 Ww)] := by
      intro N
      induction N with
      | zero =>
        intro v be Ev Aw Mw Ww L23 hv hEv hbe hL23_0 hL23_1 hL23_2 hL23_3 hL23_4 hN23
        exfalso; omega
      | succ N ih23 =>
        intro v be Ev Aw Mw Ww L23 hv hEv hbe hL23_0 hL23_1 hL23_2 hL23_3 hL23_4 hN23
        refine S_iload X dX12_paid_23 hL23_4 ?_
        refine S_if_lt (tgt := 57) X dX12_paid_25 (by decide) (by omega) (fun c_12 => ?_) (fun c_12 => ?_)
        ·
          refine S_aload_n X dX12_paid_57 rfl hL23_0 ?_
          refine S_get X fgX12_49_11 0 rfl hf6 dX12_paid_58 ?_
          refine S_iload_n X dX12_paid_61 rfl hL23_1 ?_
          refine S_iload_n X dX12_paid_62 rfl hL23_2 ?_
          refine S_iast X 3 rfl (by omega) (by omega) (nle rfl) dX12_paid_63 ?_
          refine S_w (ws' := [(h0, ob 11 f), (hQ, ar 30 Q), (hB, ar 6 B), (hE, ar 6 (uZ Ev pp (E pp))), (hA, ar 1206 Aw), (hM, ar 180 Mw), (hW, ar 180 Ww)]) rfl ?_
          refine S_iload_n X dX12_paid_64 rfl hL23_3 ?_
          exact S_iret X (nle rfl) (nle rfl) dX12_paid_65 (hPo _ _ (⟨_, _, _, _, rfl, by rw [hEv, uZ_id], Or.inr ⟨by omega, pd_end hbe (by omega)⟩⟩))
        ·
          refine S_aload_n X dX12_paid_28 rfl hL23_0 ?_
          refine S_get X fgX12_49_11 0 rfl hf6 dX12_paid_29 ?_
          refine S_iload_n X dX12_paid_32 rfl hL23_1 ?_
          refine S_iload X dX12_paid_33 hL23_4 ?_
          refine S_iast X 3 rfl (by omega) (by omega) (nle rfl) dX12_paid_35 ?_
          refine S_w (ws' := [(h0, ob 11 f), (hQ, ar 30 Q), (hB, ar 6 B), (hE, ar 6 (uZ Ev pp v)), (hA, ar 1206 Aw), (hM, ar 180 Mw), (hW, ar 180 Ww)]) rfl ?_
          refine S_aload_n X dX12_paid_36 rfl hL23_0 ?_
          refine S_iload_n X dX12_paid_37 rfl hL23_1 ?_
          refine S_calli X (kX12_isAloneLast l h0 f pl n ec mk hQ hB hE hA hM hW Q B (uZ Ev pp v) Aw Mw Ww pp hf0 hf1 hf2 hf3 hf4 hf5 hf6 hf7 hf8 hf9 (by rw [hEv]; exact hok.la (by omega)) (by omega)) (is := [0, 1, 2, 3, 4, 5, 6]) rfl (run_V X lkX12_352 0 rfl rfl (is := [0, 1, 2, 3, 4, 5, 6]) (avs := [iv pp]) (rest := []) rfl rfl (nle rfl) ⟨nle rfl, nle rfl⟩ ⟨nle rfl, nle rfl⟩ dX12_paid_38 (by decide) rfl) (fun z_15 u_13 hp_14 => ?_)
          rcases hp_14 with ⟨A2_16, M2_17, W2_18, hz_19, hu_20, hq_21⟩ | ⟨A2_22, M2_23, W2_24, hz_25, hu_26, hq_27⟩
          ·
            subst hz_19
            subst hu_20
            refine ⟨rfl, ?_⟩
            refine S_w (ws' := [(h0, ob 11 f), (hQ, ar 30 Q), (hB, ar 6 B), (hE, ar 6 (uZ Ev pp v)), (hA, ar 1206 A2_16), (hM, ar 180 M2_17), (hW, ar 180 W2_18)]) rfl ?_
            have hq9 := hq_21
            rw [hEv] at hq9
            refine S_if_eq (tgt := 49) X dX12_paid_41 (by decide) (by decide) (fun _ => ?_) (fun h9 => absurd h9 (by decide))
            refine S_iload_n X dX12_paid_49 rfl hL23_3 ?_
            refine S_istore_n X dX12_paid_50 rfl (nle rfl) ?_
            refine S_iinc X dX12_paid_51 (nle rfl) hL23_4 ?_
            refine S_goto (tgt := 23) X dX12_paid_54 (by decide) ?_
            exact ih23 (v + (-1)) be (uZ Ev pp v) A2_16 M2_17 W2_18 _ (by omega) (fun x => by rw [uZ_twice]; exact hEv x) (pd_no hv hq9 hbe) hL23_0 hL23_1 hL23_2 rfl rfl (by omega)
          ·
            subst hz_25
            subst hu_26
            refine ⟨rfl, ?_⟩
            refine S_w (ws' := [(h0, ob 11 f), (hQ, ar 30 Q), (hB, ar 6 B), (hE, ar 6 (uZ Ev pp v)), (hA, ar 1206 A2_22), (hM, ar 180 M2_23), (hW, ar 180 W2_24)]) rfl ?_
            have hq9 := hq_27
            rw [hEv] at hq9
            refine S_if_eq (tgt := 49) X dX12_paid_41 (by decide) (by decide) (fun h9 => absurd h9 (by decide)) (fun _ => ?_)
            refine S_iload X dX12_paid_44 hL23_4 ?_
            refine S_goto (tgt := 50) X dX12_paid_46 (by decide) ?_
            refine S_istore_n X dX12_paid_50 rfl (nle rfl) ?_
            refine S_iinc X dX12_paid_51 (nle rfl) hL23_4 ?_
            refine S_goto (tgt := 23) X dX12_paid_54 (by decide) ?_
            exact ih23 (v + (-1)) v (uZ Ev pp v) A2_22 M2_23 W2_24 _ (by omega) (fun x => by rw [uZ_twice]; exact hEv x) (pd_yes hv hq9 hbe) hL23_0 hL23_1 hL23_2 rfl rfl (by omega)
    exact lp23_1 (Int.toNat (50 + 2) + 1) 50 (-1) E Ab Mt Wt _ (by omega) (fun x => rfl) (Or.inl ⟨rfl, fun x h0 h1 => by omega⟩) rfl rfl rfl rfl rfl (by omega)
set_option maxHeartbeats 4000000 in
set_option maxRecDepth 100000 in
theorem kX12_deaf (l : Launch) (h0 : Nat) (f : Nat → AV) (pl : Int) (n : Int) (ec : Int) (mk : Int) (hQ : Nat) (hB : Nat) (hE : Nat) (hA : Nat) (hM : Nat) (hW : Nat) (Q : Int → Int) (B : Int → Int) (E : Int → Int) (Ab : Int → Int) (Mt : Int → Int) (Wt : Int → Int) (pp : Int) (hf0 : f 21 = iv pl) (hf1 : f 28 = iv n) (hf2 : f 29 = iv ec) (hf3 : f 26 = iv mk) (hf4 : f 20 = rv hQ) (hf5 : f 23 = rv hB) (hf6 : f 24 = rv hE) (hf7 : f 33 = rv hA) (hf8 : f 34 = rv hM) (hf9 : f 35 = rv hW) (hz : okZ pl n ec (c5 Q 3) (c5 Q 4) B E) (hx_pp : inR pp) : AMi l yX12_deaf cX12_deaf 4 .int 6 0 0 [rv h0, iv pp] [(h0, ob 11 f), (hQ, ar 30 Q), (hB, ar 6 B), (hE, ar 6 E), (hA, ar 1206 Ab), (hM, ar 180 Mt), (hW, ar 180 Wt)] (fun z u => ∃ A2 : Int → Int, ∃ M2 : Int → Int, ∃ W2 : Int → Int, z = aDeaf pl n ec mk (c5 Q 3) (c5 Q 4) B E pp ∧ u = [(h0, ob 11 f), (hQ, ar 30 Q), (hB, ar 6 B), (hE, ar 6 E), (hA, ar 1206 A2), (hM, ar 180 M2), (hW, ar 180 W2)]) := by
  refine AMi.of2 rfl (nle rfl) ?_
  intro D G A p e s m args below meth c Po hPo X
  have hz6 := hz.2.1
  have hz0 := hz.1
  have hzn := hz.2.2.1
  have hzm := hz.2.2.2.1
  have hze := hz.2.2.2.2
  refine S_aload_n X dX12_deaf_0 rfl rfl ?_
  refine S_iload_n X dX12_deaf_1 rfl rfl ?_
  refine S_calli X (kX12_isPlayer l h0 f pl pp hf0 (by omega) (by omega)) (is := [0]) rfl (run_V X lkX12_281 0 rfl rfl (is := [0]) (avs := [iv pp]) (rest := []) rfl rfl (nle rfl) ⟨nle rfl, nle rfl⟩ ⟨nle rfl, nle rfl⟩ dX12_deaf_2 (by decide) rfl) (fun z_3 u_1 hp_2 => ?_)
  rcases hp_2 with ⟨hz_4, hu_5, hq_6⟩ | ⟨hz_7, hu_8, hq_9⟩
  ·
    subst hz_4
    subst hu_5
    refine ⟨rfl, ?_⟩
    refine S_w (ws' := [(h0, ob 11 f), (hQ, ar 30 Q), (hB, ar 6 B), (hE, ar 6 E), (hA, ar 1206 Ab), (hM, ar 180 Mt), (hW, ar 180 Wt)]) rfl ?_
    refine S_if_ne (tgt := 10) X dX12_deaf_5 (by decide) (by decide) (fun h9 => absurd h9 (by decide)) (fun _ => ?_)
    refine S_iconst X dX12_deaf_8 ?_
    exact S_iret X (nle rfl) (nle rfl) dX12_deaf_9 (hPo _ _ (⟨_, _, _, by unfold aDeaf; rw [if_neg (by omega)], rfl⟩))
  ·
    subst hz_7
    subst hu_8
    refine ⟨rfl, ?_⟩
    refine S_w (ws' := [(h0, ob 11 f), (hQ, ar 30 Q), (hB, ar 6 B), (hE, ar 6 E), (hA, ar 1206 Ab), (hM, ar 180 Mt), (hW, ar 180 Wt)]) rfl ?_
    refine S_if_ne (tgt := 10) X dX12_deaf_5 (by decide) (by decide) (fun _ => ?_) (fun h9 => absurd h9 (by decide))
    have hok := hz.s (by omega)
    have hpl := hok.2.1
    have hpl1 := hok.1
    have hn1 := hok.2.2.1
    have hn2 := hok.2.2.2.1
    have hec := hok.2.2.2.2
    refine S_aload_n X dX12_deaf_10 rfl rfl ?_
    refine S_iload_n X dX12_deaf_11 rfl rfl ?_
    refine S_iconst X dX12_deaf_12 ?_
    refine S_calli X (kX12_of l h0 f hQ Q pp 3 hf4 (by omega) (by omega)) (is := [0, 1]) rfl (run_V X lkX12_284 0 rfl rfl (is := [0, 1]) (avs := [iv pp, iv 3]) (rest := []) rfl rfl (nle rfl) ⟨nle rfl, nle rfl⟩ ⟨nle rfl, nle rfl⟩ dX12_deaf_13 (by decide) rfl) (fun z_14 u_12 hp_13 => ?_)
    obtain ⟨hz_15, hu_16⟩ := hp_13
    subst hz_15
    subst hu_16
    refine ⟨rfl, ?_⟩
    refine S_w (ws' := [(h0, ob 11 f), (hQ, ar 30 Q), (hB, ar 6 B), (hE, ar 6 E), (hA, ar 1206 Ab), (hM, ar 180 Mt), (hW, ar 180 Wt)]) rfl ?_
    refine S_istore_n X dX12_deaf_16 rfl (nle rfl) ?_
    refine S_aload_n X dX12_deaf_17 rfl rfl ?_
    refine S_get X fgX12_43_11 0 rfl hf4 dX12_deaf_18 ?_
    refine S_iconst X dX12_deaf_21 ?_
    refine S_iload_n X dX12_deaf_22 rfl rfl ?_
    refine S_imul X dX12_deaf_23 ?_
    refine S_iconst X dX12_deaf_24 ?_
    refine S_iadd X dX12_deaf_25 ?_
    refine S_iconst X dX12_deaf_26 ?_
    refine S_iast X 1 rfl (by omega) (by omega) (nle rfl) dX12_deaf_27 ?_
    refine S_w (ws' := [(h0, ob 11 f), (hQ, ar 30 (uZ Q ((5 * pp) + 3) (-1))), (hB, ar 6 B), (hE, ar 6 E), (hA, ar 1206 Ab), (hM, ar 180 Mt), (hW, ar 180 Wt)]) rfl ?_
    refine S_aload_n X dX12_deaf_28 rfl rfl ?_
    refine S_calli X (kX12_worstNow l h0 f pl n ec mk hQ hB hE hA hM hW (uZ Q ((5 * pp) + 3) (-1)) B E Ab Mt Wt hf0 hf1 hf2 hf3 hf4 hf5 hf6 hf7 hf8 hf9 (by rw [c5_F, c5_n (by omega) (by omega) (by omega)]; exact hok.fo (by omega))) (is := [0, 1, 2, 3, 4, 5, 6]) rfl (run_V X lkX12_321 0 rfl rfl (is := [0, 1, 2, 3, 4, 5, 6]) (avs := []) (rest := []) rfl rfl (nle rfl) ⟨nle rfl, nle rfl⟩ ⟨nle rfl, nle rfl⟩ dX12_deaf_29 (by decide) rfl) (fun z_19 u_17 hp_18 => ?_)
    obtain ⟨A2_20, M2_21, W2_22, hz_23, hu_24⟩ := hp_18
    subst hz_23
    subst hu_24
    refine ⟨rfl, ?_⟩
    refine S_w (ws' := [(h0, ob 11 f), (hQ, ar 30 (uZ Q ((5 * pp) + 3) (-1))), (hB, ar 6 B), (hE, ar 6 E), (hA, ar 1206 A2_20), (hM, ar 180 M2_21), (hW, ar 180 W2_22)]) rfl ?_
    refine S_istore_n X dX12_deaf_32 rfl (nle rfl) ?_
    refine S_aload_n X dX12_deaf_33 rfl rfl ?_
    refine S_get X fgX12_43_11 0 rfl hf4 dX12_deaf_34 ?_
    refine S_iconst X dX12_deaf_37 ?_
    refine S_iload_n X dX12_deaf_38 rfl rfl ?_
    refine S_imul X dX12_deaf_39 ?_
    refine S_iconst X dX12_deaf_40 ?_
    refine S_iadd X dX12_deaf_41 ?_
    refine S_iload_n X dX12_deaf_42 rfl rfl ?_
    refine S_iast X 1 rfl (by omega) (by omega) (nle rfl) dX12_deaf_43 ?_
    refine S_w (ws' := [(h0, ob 11 f), (hQ, ar 30 (uZ (uZ Q ((5 * pp) + 3) (-1)) ((5 * pp) + 3) (Q (5 * pp + 3)))), (hB, ar 6 B), (hE, ar 6 E), (hA, ar 1206 A2_20), (hM, ar 180 M2_21), (hW, ar 180 W2_22)]) rfl ?_
    refine S_iload_n X dX12_deaf_44 rfl rfl ?_
    exact S_iret X (nle rfl) (nle rfl) dX12_deaf_45 (hPo _ _ (⟨_, _, _, by unfold aDeaf; rw [if_pos (by omega), c5_F, c5_n (by omega) (by omega) (by omega)], by rw [uZ_back]⟩))
set_option maxHeartbeats 4000000 in
set_option maxRecDepth 100000 in
theorem kX12_leader (l : Launch) (h0 : Nat) (f : Nat → AV) (pl : Int) (n : Int) (ec : Int) (mk : Int) (hQ : Nat) (hB : Nat) (hE : Nat) (hA : Nat) (hM : Nat) (hW : Nat) (Q : Int → Int) (B : Int → Int) (E : Int → Int) (Ab : Int → Int) (Mt : Int → Int) (Wt : Int → Int) (pp : Int) (v : Int) (hf0 : f 21 = iv pl) (hf1 : f 28 = iv n) (hf2 : f 29 = iv ec) (hf3 : f 26 = iv mk) (hf4 : f 20 = rv hQ) (hf5 : f 23 = rv hB) (hf6 : f 24 = rv hE) (hf7 : f 33 = rv hA) (hf8 : f 34 = rv hM) (hf9 : f 35 = rv hW) (hz : okZ pl n ec (c5 Q 3) (c5 Q 4) B E) (hx_pp : inR pp) (hx_v : inR v) : AMi l yX12_leader cX12_leader 8 .int 6 0 0 [rv h0, iv pp, iv v] [(h0, ob 11 f), (hQ, ar 30 Q), (hB, ar 6 B), (hE, ar 6 E), (hA, ar 1206 Ab), (hM, ar 180 Mt), (hW, ar 180 Wt)] (fun z u => ∃ A2 : Int → Int, ∃ M2 : Int → Int, ∃ W2 : Int → Int, z = aLeader pl n ec mk (c5 Q 3) (c5 Q 4) B E pp v ∧ u = [(h0, ob 11 f), (hQ, ar 30 Q), (hB, ar 6 B), (hE, ar 6 E), (hA, ar 1206 A2), (hM, ar 180 M2), (hW, ar 180 W2)]) := by
  refine AMi.of2 rfl (nle rfl) ?_
  intro D G A p e s m args below meth c Po hPo X
  have hz6 := hz.2.1
  have hz0 := hz.1
  have hzn := hz.2.2.1
  have hzm := hz.2.2.2.1
  have hze := hz.2.2.2.2
  refine S_aload_n X dX12_leader_0 rfl rfl ?_
  refine S_iload_n X dX12_leader_1 rfl rfl ?_
  refine S_calli X (kX12_isPlayer l h0 f pl pp hf0 (by omega) (by omega)) (is := [0]) rfl (run_V X lkX12_281 0 rfl rfl (is := [0]) (avs := [iv pp]) (rest := []) rfl rfl (nle rfl) ⟨nle rfl, nle rfl⟩ ⟨nle rfl, nle rfl⟩ dX12_leader_2 (by decide) rfl) (fun z_3 u_1 hp_2 => ?_)
  rcases hp_2 with ⟨hz_4, hu_5, hq_6⟩ | ⟨hz_7, hu_8, hq_9⟩
  ·
    subst hz_4
    subst hu_5
    refine ⟨rfl, ?_⟩
    refine S_w (ws' := [(h0, ob 11 f), (hQ, ar 30 Q), (hB, ar 6 B), (hE, ar 6 E), (hA, ar 1206 Ab), (hM, ar 180 Mt), (hW, ar 180 Wt)]) rfl ?_
    refine S_if_eq (tgt := 17) X dX12_leader_5 (by decide) (by decide) (fun _ => ?_) (fun h9 => absurd h9 (by decide))
    refine S_ldcw (n := -1000000) X (by rw [show i32 (-1000000) = (-1000000 : Int32) from by decide]; exact m1595) dX12_leader_17 ?_
    exact S_iret X (nle rfl) (nle rfl) dX12_leader_20 (hPo _ _ (⟨_, _, _, by unfold aLeader; rw [if_neg (by omega)], rfl⟩))
  ·
    subst hz_7
    subst hu_8
    refine ⟨rfl, ?_⟩
    refine S_w (ws' := [(h0, ob 11 f), (hQ, ar 30 Q), (hB, ar 6 B), (hE, ar 6 E), (hA, ar 1206 Ab), (hM, ar 180 Mt), (hW, ar 180 Wt)]) rfl ?_
    refine S_if_eq (tgt := 17) X dX12_leader_5 (by decide) (by decide) (fun h9 => absurd h9 (by decide)) (fun _ => ?_)
    refine S_iload_n X dX12_leader_8 rfl rfl ?_
    refine S_iconst X dX12_leader_9 ?_
    refine S_iconst X dX12_leader_10 ?_
    refine S_calli X (kX12_in l v 0 1 (by omega) (by omega) (by omega)) (is := []) rfl (run_S X lkX12_216 (is := []) (avs := [iv v, iv 0, iv 1]) (rest := []) rfl rfl (nle rfl) ⟨nle rfl, nle rfl⟩ ⟨nle rfl, nle rfl⟩ dX12_leader_11 (by decide) rfl) (fun z_14 u_12 hp_13 => ?_)
    rcases hp_13 with ⟨hz_15, hu_16, hq_17⟩ | ⟨hz_18, hu_19, hq_20⟩
    ·
      subst hz_15
      subst hu_16
      refine ⟨rfl, ?_⟩
      refine S_w (ws' := [(h0, ob 11 f), (hQ, ar 30 Q), (hB, ar 6 B), (hE, ar 6 E), (hA, ar 1206 Ab), (hM, ar 180 Mt), (hW, ar 180 Wt)]) rfl ?_
      refine S_if_ne (tgt := 21) X dX12_leader_14 (by decide) (by decide) (fun h9 => absurd h9 (by decide)) (fun _ => ?_)
      refine S_ldcw (n := -1000000) X (by rw [show i32 (-1000000) = (-1000000 : Int32) from by decide]; exact m1595) dX12_leader_17 ?_
      exact S_iret X (nle rfl) (nle rfl) dX12_leader_20 (hPo _ _ (⟨_, _, _, by unfold aLeader; rw [if_neg (by omega)], rfl⟩))
    ·
      subst hz_18
      subst hu_19
      refine ⟨rfl, ?_⟩
      refine S_w (ws' := [(h0, ob 11 f), (hQ, ar 30 Q), (hB, ar 6 B), (hE, ar 6 E), (hA, ar 1206 Ab), (hM, ar 180 Mt), (hW, ar 180 Wt)]) rfl ?_
      refine S_if_ne (tgt := 21) X dX12_leader_14 (by decide) (by decide) (fun _ => ?_) (fun h9 => absurd h9 (by decide))
      have hok := hz.s (by omega)
      have hpl := hok.2.1
      have hpl1 := hok.1
      have hn1 := hok.2.2.1
      have hn2 := hok.2.2.2.1
      have hec := hok.2.2.2.2
      refine S_aload_n X dX12_leader_21 rfl rfl ?_
      refine S_iload_n X dX12_leader_22 rfl rfl ?_
      refine S_iconst X dX12_leader_23 ?_
      refine S_calli X (kX12_of l h0 f hQ Q pp 3 hf4 (by omega) (by omega)) (is := [0, 1]) rfl (run_V X lkX12_284 0 rfl rfl (is := [0, 1]) (avs := [iv pp, iv 3]) (rest := []) rfl rfl (nle rfl) ⟨nle rfl, nle rfl⟩ ⟨nle rfl, nle rfl⟩ dX12_leader_24 (by decide) rfl) (fun z_25 u_23 hp_24 => ?_)
      obtain ⟨hz_26, hu_27⟩ := hp_24
      subst hz_26
      subst hu_27
      refine ⟨rfl, ?_⟩
      refine S_w (ws' := [(h0, ob 11 f), (hQ, ar 30 Q), (hB, ar 6 B), (hE, ar 6 E), (hA, ar 1206 Ab), (hM, ar 180 Mt), (hW, ar 180 Wt)]) rfl ?_
      refine S_istore_n X dX12_leader_27 rfl (nle rfl) ?_
      refine S_aload_n X dX12_leader_28 rfl rfl ?_
      refine S_get X fgX12_43_11 0 rfl hf4 dX12_leader_29 ?_
      refine S_iconst X dX12_leader_32 ?_
      refine S_iload_n X dX12_leader_33 rfl rfl ?_
      refine S_imul X dX12_leader_34 ?_
      refine S_iconst X dX12_leader_35 ?_
      refine S_iadd X dX12_leader_36 ?_
      refine S_iconst X dX12_leader_37 ?_
      refine S_iast X 1 rfl (by omega) (by omega) (nle rfl) dX12_leader_38 ?_
      refine S_w (ws' := [(h0, ob 11 f), (hQ, ar 30 (uZ Q ((5 * pp) + 3) (-1))), (hB, ar 6 B), (hE, ar 6 E), (hA, ar 1206 Ab), (hM, ar 180 Mt), (hW, ar 180 Wt)]) rfl ?_
      refine S_iconst X dX12_leader_39 ?_
      refine S_istore X dX12_leader_40 (nle rfl) ?_
      refine S_aload_n X dX12_leader_42 rfl rfl ?_
      refine S_calli X (kX12_worstNow l h0 f pl n ec mk hQ hB hE hA hM hW (uZ Q ((5 * pp) + 3) (-1)) B E Ab Mt Wt hf0 hf1 hf2 hf3 hf4 hf5 hf6 hf7 hf8 hf9 (by rw [c5_F, c5_n (by omega) (by omega) (by omega)]; exact hok.fo (by omega))) (is := [0, 1, 2, 3, 4, 5, 6]) rfl (run_V X lkX12_321 0 rfl rfl (is := [0, 1, 2, 3, 4, 5, 6]) (avs := []) (rest := []) rfl rfl (nle rfl) ⟨nle rfl, nle rfl⟩ ⟨nle rfl, nle rfl⟩ dX12_leader_43 (by decide) rfl) (fun z_30 u_28 hp_29 => ?_)
      obtain ⟨A2_31, M2_32, W2_33, hz_34, hu_35⟩ := hp_29
      subst hz_34
      subst hu_35
      refine ⟨rfl, ?_⟩
      refine S_w (ws' := [(h0, ob 11 f), (hQ, ar 30 (uZ Q ((5 * pp) + 3) (-1))), (hB, ar 6 B), (hE, ar 6 E), (hA, ar 1206 A2_31), (hM, ar 180 M2_32), (hW, ar 180 W2_33)]) rfl ?_
      have hw0 : WO pl n ec mk (c5 (uZ Q ((5 * pp) + 3) (-1)) 3) (c5 (uZ Q ((5 * pp) + 3) (-1)) 4) B E = WO pl n ec mk (uZ (c5 Q 3) pp (-1)) (c5 Q 4) B E := by rw [c5_F, c5_n (by omega) (by omega) (by omega)]
      rw [hw0]
      have hwrhw0 := (hok.fo (p := pp) (v := (-1)) (by omega)).worst (mk := mk)
      refine S_istore X dX12_leader_46 (nle rfl) ?_
      refine S_iconst X dX12_leader_48 ?_
      refine S_istore X dX12_leader_49 (nle rfl) ?_
      have lp51_2 : ∀ (N : Nat) (fo : Int) (be : Int) (le : Int) (Qv : Int → Int) (Aw : Int → Int) (Mw : Int → Int) (Ww : Int → Int) (L : Nat → Option AV), 0 ≤ fo ∧ fo ≤ pl → (∀ x, uZ Qv (5 * pp + 3) x = uZ Q (5 * pp + 3) x) → ldI pl n ec mk (c5 Q 3) (c5 Q 4) B E pp fo = (be, le) → L 0 = some (rv h0) → L 1 = some (iv pp) → L 2 = some (iv v) → L 3 = some (iv (Q (5 * pp + 3))) → L 4 = some (iv be) → L 5 = some (iv le) → L 6 = some (iv fo) → pl + 1 - fo < (N : Int) → S_ p l e (rmD 6 0 0) s m args below meth c (MQ below (QcI D G A Po) args s 0 0 A) D G A 8 0 0 51 L [] [(h0, ob 11 f), (hQ, ar 30 Qv), (hB, ar 6 B), (hE, ar 6 E), (hA, ar 1206 Aw), (hM, ar 180 Mw), (hW, ar 180 Ww)] := by
        intro N
        induction N with
        | zero =>
          intro fo be le Qv Aw Mw Ww L51 hf hQv hld hL51_0 hL51_1 hL51_2 hL51_3 hL51_4 hL51_5 hL51_6 hN51
          exfalso; omega
        | succ N ih51 =>
          intro fo be le Qv Aw Mw Ww L51 hf hQv hld hL51_0 hL51_1 hL51_2 hL51_3 hL51_4 hL51_5 hL51_6 hN51
          refine S_iload X dX12_leader_51 hL51_6 ?_
          refine S_aload_n X dX12_leader_53 rfl hL51_0 ?_
          refine S_get X fgX12_253_11 0 rfl hf0 dX12_leader_54 ?_
          refine S_icmp_ge (tgt := 115) X dX12_leader_57 (by decide) (by omega) (by omega) (fun c_36 => ?_) (fun c_36 => ?_)
          ·
            refine S_aload_n X dX12_leader_115 rfl hL51_0 ?_
            refine S_get X fgX12_43_11 0 rfl hf4 dX12_leader_116 ?_
            refine S_iconst X dX12_leader_119 ?_
            refine S_iload_n X dX12_leader_120 rfl hL51_1 ?_
            refine S_imul X dX12_leader_121 ?_
            refine S_iconst X dX12_leader_122 ?_
            refine S_iadd X dX12_leader_123 ?_
            refine S_iload_n X dX12_leader_124 rfl hL51_3 ?_
            refine S_iast X 1 rfl (by omega) (by omega) (nle rfl) dX12_leader_125 ?_
            refine S_w (ws' := [(h0, ob 11 f), (hQ, ar 30 (uZ Qv ((5 * pp) + 3) (Q (5 * pp + 3)))), (hB, ar 6 B), (hE, ar 6 E), (hA, ar 1206 Aw), (hM, ar 180 Mw), (hW, ar 180 Ww)]) rfl ?_
            refine S_iload_n X dX12_leader_126 rfl hL51_2 ?_
            refine S_if_ne (tgt := 135) X dX12_leader_127 (by decide) (by omega) (fun c_37 => ?_) (fun c_37 => ?_)
            ·
              refine S_iload X dX12_leader_135 hL51_5 ?_
              exact S_iret X (nle rfl) (nle rfl) dX12_leader_137 (hPo _ _ (⟨_, _, _, by unfold aLeader; rw [if_pos (by omega), if_neg (by omega)]; rw [show fo = pl by omega] at hld; rw [hld], by rw [hQv, uZ_id]⟩))
            ·
              refine S_iload X dX12_leader_130 hL51_4 ?_
              refine S_goto (tgt := 137) X dX12_leader_132 (by decide) ?_
              exact S_iret X (nle rfl) (nle rfl) dX12_leader_137 (hPo _ _ (⟨_, _, _, by unfold aLeader; rw [if_pos (by omega), if_pos (by omega)]; rw [show fo = pl by omega] at hld; rw [hld], by rw [hQv, uZ_id]⟩))
          ·
            have hldr := ld_in (mk := mk) hok (p := pp) (by omega) fo (by omega) (by omega)
            rw [hld] at hldr
            dsimp only at hldr
            refine S_iload X dX12_leader_60 hL51_6 ?_
            refine S_iload_n X dX12_leader_62 rfl hL51_1 ?_
            refine S_icmp_eq (tgt := 109) X dX12_leader_63 (by decide) (by omega) (by omega) (fun c_38 => ?_) (fun c_38 => ?_)
            ·
              refine S_iinc X dX12_leader_109 (nle rfl) hL51_6 ?_
              refine S_goto (tgt := 51) X dX12_leader_112 (by decide) ?_
              exact ih51 (fo + 1) be le Qv Aw Mw Ww _ (by omega) (fun x => by first | (rw [uZ_twice]; exact hQv x) | exact hQv x) (by rw [ldI_S (by omega), hld]; rw [if_neg (fun h9 => h9.1 (by omega))]) hL51_0 hL51_1 hL51_2 hL51_3 hL51_4 hL51_5 rfl (by omega)
            ·
              refine S_aload_n X dX12_leader_66 rfl hL51_0 ?_
              refine S_get X fgX12_43_11 0 rfl hf4 dX12_leader_67 ?_
              refine S_iconst X dX12_leader_70 ?_
              refine S_iload_n X dX12_leader_71 rfl hL51_1 ?_
              refine S_imul X dX12_leader_72 ?_
              refine S_iconst X dX12_leader_73 ?_
              refine S_iadd X dX12_leader_74 ?_
              refine S_iload X dX12_leader_75 hL51_6 ?_
              refine S_iast X 1 rfl (by omega) (by omega) (nle rfl) dX12_leader_77 ?_
              refine S_w (ws' := [(h0, ob 11 f), (hQ, ar 30 (uZ Qv ((5 * pp) + 3) fo)), (hB, ar 6 B), (hE, ar 6 E), (hA, ar 1206 Aw), (hM, ar 180 Mw), (hW, ar 180 Ww)]) rfl ?_
              refine S_aload_n X dX12_leader_78 rfl hL51_0 ?_
              refine S_calli X (kX12_worstNow l h0 f pl n ec mk hQ hB hE hA hM hW (uZ Qv ((5 * pp) + 3) fo) B E Aw Mw Ww hf0 hf1 hf2 hf3 hf4 hf5 hf6 hf7 hf8 hf9 (by rw [hQv, c5_F, c5_n (by omega) (by omega) (by omega)]; exact hok.fo (by omega))) (is := [0, 1, 2, 3, 4, 5, 6]) rfl (run_V X lkX12_321 0 rfl rfl (is := [0, 1, 2, 3, 4, 5, 6]) (avs := []) (rest := []) rfl rfl (nle rfl) ⟨nle rfl, nle rfl⟩ ⟨nle rfl, nle rfl⟩ dX12_leader_79 (by decide) rfl) (fun z_41 u_39 hp_40 => ?_)
              obtain ⟨A2_42, M2_43, W2_44, hz_45, hu_46⟩ := hp_40
              subst hz_45
              subst hu_46
              refine ⟨rfl, ?_⟩
              refine S_w (ws' := [(h0, ob 11 f), (hQ, ar 30 (uZ Qv ((5 * pp) + 3) fo)), (hB, ar 6 B), (hE, ar 6 E), (hA, ar 1206 A2_42), (hM, ar 180 M2_43), (hW, ar 180 W2_44)]) rfl ?_
              have hw1 : WO pl n ec mk (c5 (uZ Qv ((5 * pp) + 3) fo) 3) (c5 (uZ Qv ((5 * pp) + 3) fo) 4) B E = WO pl n ec mk (uZ (c5 Q 3) pp fo) (c5 Q 4) B E := by rw [hQv, c5_F, c5_n (by omega) (by omega) (by omega)]
              rw [hw1]
              have hwrhw1 := (hok.fo (p := pp) (v := fo) (by omega)).worst (mk := mk)
              refine S_istore X dX12_leader_82 (nle rfl) ?_
              refine S_iload X dX12_leader_84 rfl ?_
              refine S_iload X dX12_leader_86 hL51_5 ?_
              refine S_icmp_ge (tgt := 96) X dX12_leader_88 (by decide) (by omega) (by omega) (fun c_47 => ?_) (fun c_47 => ?_)
              ·
                refine S_iload X dX12_leader_96 hL51_4 ?_
                refine S_istore X dX12_leader_98 (nle rfl) ?_
                refine S_iload X dX12_leader_100 hL51_5 ?_
                refine S_iload X dX12_leader_102 rfl ?_
                refine S_mmin X lkX12_293 rfl rfl (by omega) (by omega) (nle rfl) (nle rfl) (nle rfl) (nle rfl) dX12_leader_104 ?_
                refine S_istore X dX12_leader_107 (nle rfl) ?_
                refine S_iinc X dX12_leader_109 (nle rfl) hL51_6 ?_
                refine S_goto (tgt := 51) X dX12_leader_112 (by decide) ?_
                exact ih51 (fo + 1) be (min le (WO pl n ec mk (uZ (c5 Q 3) pp fo) (c5 Q 4) B E)) (uZ Qv ((5 * pp) + 3) fo) A2_42 M2_43 W2_44 _ (by omega) (fun x => by first | (rw [uZ_twice]; exact hQv x) | exact hQv x) (by rw [ldI_S (by omega), hld]; rw [if_neg (fun h9 => by have := h9.2; dsimp only at this; omega)]; exact Prod.ext rfl (show _ = _ by dsimp only; omega)) hL51_0 hL51_1 hL51_2 hL51_3 rfl rfl rfl (by omega)
              ·
                refine S_iload X dX12_leader_91 hL51_6 ?_
                refine S_goto (tgt := 98) X dX12_leader_93 (by decide) ?_
                refine S_istore X dX12_leader_98 (nle rfl) ?_
                refine S_iload X dX12_leader_100 hL51_5 ?_
                refine S_iload X dX12_leader_102 rfl ?_
                refine S_mmin X lkX12_293 rfl rfl (by omega) (by omega) (nle rfl) (nle rfl) (nle rfl) (nle rfl) dX12_leader_104 ?_
                refine S_istore X dX12_leader_107 (nle rfl) ?_
                refine S_iinc X dX12_leader_109 (nle rfl) hL51_6 ?_
                refine S_goto (tgt := 51) X dX12_leader_112 (by decide) ?_
                exact ih51 (fo + 1) fo (min le (WO pl n ec mk (uZ (c5 Q 3) pp fo) (c5 Q 4) B E)) (uZ Qv ((5 * pp) + 3) fo) A2_42 M2_43 W2_44 _ (by omega) (fun x => by first | (rw [uZ_twice]; exact hQv x) | exact hQv x) (by rw [ldI_S (by omega), hld]; rw [if_pos ⟨by omega, by dsimp only; omega⟩]; exact Prod.ext rfl (show _ = _ by dsimp only; omega)) hL51_0 hL51_1 hL51_2 hL51_3 rfl rfl rfl (by omega)
      exact lp51_2 (Int.toNat (pl + 1 - 0) + 1) 0 (-1) (WO pl n ec mk (uZ (c5 Q 3) pp (-1)) (c5 Q 4) B E) (uZ Q ((5 * pp) + 3) (-1)) A2_31 M2_32 W2_33 _ (by omega) (fun x => uZ_twice) (ldI_0) rfl rfl rfl rfl rfl rfl rfl (by omega)
set_option maxHeartbeats 4000000 in
set_option maxRecDepth 100000 in
theorem kX12_agrees (l : Launch) (h0 : Nat) (f : Nat → AV) (pl : Int) (n : Int) (ec : Int) (mk : Int) (hQ : Nat) (hB : Nat) (hE : Nat) (hA : Nat) (hM : Nat) (hW : Nat) (Q : Int → Int) (B : Int → Int) (E : Int → Int) (Ab : Int → Int) (Mt : Int → Int) (Wt : Int → Int) (rl : Int) (hrp : Nat) (hrb : Nat) (hrt : Nat) (RP : Int → Int) (RB : Int → Int) (RT : Int → Int) (hf0 : f 21 = iv pl) (hf1 : f 28 = iv n) (hf2 : f 29 = iv ec) (hf3 : f 26 = iv mk) (hf4 : f 20 = rv hQ) (hf5 : f 23 = rv hB) (hf6 : f 24 = rv hE) (hf7 : f 33 = rv hA) (hf8 : f 34 = rv hM) (hf9 : f 35 = rv hW) (hf10 : f 46 = iv rl) (hf11 : f 43 = rv hrp) (hf12 : f 44 = rv hrb) (hf13 : f 45 = rv hrt) (hok : okS pl n ec (c5 Q 3) (c5 Q 4) B E) (hro : 0 ≤ rl ∧ rl ≤ 20 ∧ ∀ k, 0 ≤ k → k < rl → (0 ≤ RP k ∧ RP k < pl) ∧ (0 ≤ RB k ∧ RB k ≤ 29) ∧ (0 ≤ RT k ∧ RT k ≤ 9999)) : AMi l yX12_agrees cX12_agrees 2 .boolean 4 0 0 [rv h0] [(h0, ob 11 f), (hQ, ar 30 Q), (hB, ar 6 B), (hE, ar 6 E), (hA, ar 1206 Ab), (hM, ar 180 Mt), (hW, ar 180 Wt), (hrp, ar 20 RP), (hrb, ar 20 RB), (hrt, ar 20 RT)] (fun z u => (∃ A2 : Int → Int, ∃ M2 : Int → Int, ∃ W2 : Int → Int, z = 0 ∧ u = [(h0, ob 11 f), (hQ, ar 30 Q), (hB, ar 6 B), (hE, ar 6 E), (hA, ar 1206 A2), (hM, ar 180 M2), (hW, ar 180 W2), (hrp, ar 20 RP), (hrb, ar 20 RB), (hrt, ar 20 RT)] ∧ (¬ (∀ k, 0 ≤ k → k < rl → RB k < n ∧ (wS pl ec mk (c5 Q 3) (c5 Q 4) B E) (RB k) (RP k) = RT k))) ∨ (∃ A2 : Int → Int, ∃ M2 : Int → Int, ∃ W2 : Int → Int, z = 1 ∧ u = [(h0, ob 11 f), (hQ, ar 30 Q), (hB, ar 6 B), (hE, ar 6 E), (hA, ar 1206 A2), (hM, ar 180 M2), (hW, ar 180 W2), (hrp, ar 20 RP), (hrb, ar 20 RB), (hrt, ar 20 RT)] ∧ (∀ k, 0 ≤ k → k < rl → RB k < n ∧ (wS pl ec mk (c5 Q 3) (c5 Q 4) B E) (RB k) (RP k) = RT k))) := by
  refine AMi.of2 rfl (nle rfl) ?_
  intro D G A p e s m args below meth c Po hPo X
  have hpl := hok.2.1
  have hpl1 := hok.1
  have hn1 := hok.2.2.1
  have hn2 := hok.2.2.2.1
  have hec := hok.2.2.2.2
  refine S_aload_n X dX12_agrees_0 rfl rfl ?_
  refine S_callv X (kX12_play l h0 f pl n ec mk hQ hB hE hA hM hW Q B E Ab Mt Wt hf0 hf1 hf2 hf3 hf4 hf5 hf6 hf7 hf8 hf9 (by omega)) (is := [0, 1, 2, 3, 4, 5, 6]) rfl (run_V X lkX12_312 0 rfl rfl (is := [0, 1, 2, 3, 4, 5, 6]) (avs := []) (rest := []) rfl rfl (nle rfl) ⟨nle rfl, nle rfl⟩ ⟨nle rfl, nle rfl⟩ dX12_agrees_1 (by decide) rfl) (fun u_1 hp_2 => ?_)
  obtain ⟨A2_4, M2_5, W2_6, hu_8, hA2_9, hM2_10, hW2_11⟩ := hp_2
  subst hu_8
  refine ⟨rfl, ?_⟩
  refine S_w (ws' := [(h0, ob 11 f), (hQ, ar 30 Q), (hB, ar 6 B), (hE, ar 6 E), (hA, ar 1206 A2_4), (hM, ar 180 M2_5), (hW, ar 180 W2_6), (hrp, ar 20 RP), (hrb, ar 20 RB), (hrt, ar 20 RT)]) rfl ?_
  have hAL := hA2_9
  have hML := hM2_10
  have hWL := hW2_11
  refine S_iconst X dX12_agrees_4 ?_
  refine S_istore_n X dX12_agrees_5 rfl (nle rfl) ?_
  have lp6_0 : ∀ (N : Nat) (k : Int) (L : Nat → Option AV), 0 ≤ k ∧ k ≤ rl → (∀ x, 0 ≤ x → x < k → RB x < n ∧ (wS pl ec mk (c5 Q 3) (c5 Q 4) B E) (RB x) (RP x) = RT x) → L 0 = some (rv h0) → L 1 = some (iv k) → rl + 1 - k < (N : Int) → S_ p l e (rmD 4 0 0) s m args below meth c (MQ below (QcI D G A Po) args s 0 0 A) D G A 2 0 0 6 L [] [(h0, ob 11 f), (hQ, ar 30 Q), (hB, ar 6 B), (hE, ar 6 E), (hA, ar 1206 A2_4), (hM, ar 180 M2_5), (hW, ar 180 W2_6), (hrp, ar 20 RP), (hrb, ar 20 RB), (hrt, ar 20 RT)] := by
    intro N
    induction N with
    | zero =>
      intro k L6 hk hag hL6_0 hL6_1 hN6
      exfalso; omega
    | succ N ih6 =>
      intro k L6 hk hag hL6_0 hL6_1 hN6
      refine S_iload_n X dX12_agrees_6 rfl hL6_1 ?_
      refine S_aload_n X dX12_agrees_7 rfl hL6_0 ?_
      refine S_get X fgX12_268_11 0 rfl hf10 dX12_agrees_8 ?_
      refine S_icmp_ge (tgt := 65) X dX12_agrees_11 (by decide) (by omega) (by omega) (fun c_12 => ?_) (fun c_12 => ?_)
      ·
        refine S_iconst X dX12_agrees_65 ?_
        exact S_zret X (Or.inr rfl) (nle rfl) (nle rfl) dX12_agrees_66 (hPo _ _ (Or.inr ⟨_, _, _, rfl, rfl, fun x h0 h1 => hag x h0 (by omega)⟩))
      ·
        have hr9 := hro.2.2 k (by omega) (by omega)
        refine S_aload_n X dX12_agrees_14 rfl hL6_0 ?_
        refine S_get X fgX12_92_11 0 rfl hf12 dX12_agrees_15 ?_
        refine S_iload_n X dX12_agrees_18 rfl hL6_1 ?_
        refine S_iald X 8 rfl (by omega) (by omega) (nle rfl) dX12_agrees_19 ?_
        refine S_aload_n X dX12_agrees_20 rfl hL6_0 ?_
        refine S_get X fgX12_56_11 0 rfl hf1 dX12_agrees_21 ?_
        refine S_icmp_ge (tgt := 57) X dX12_agrees_24 (by decide) (by omega) (by omega) (fun c_13 => ?_) (fun c_13 => ?_)
        ·
          refine S_iconst X dX12_agrees_57 ?_
          exact S_zret X (Or.inl rfl) (nle rfl) (nle rfl) dX12_agrees_58 (hPo _ _ (Or.inl ⟨_, _, _, rfl, rfl, fun h9 => by have := h9 k (by omega) (by omega); omega⟩))
        ·
          have hw9 := hWL.at (z := 6 * RB k + RP k) (x := RB k) (y := RP k) rfl (by omega) (by omega) (by omega) (by omega)
          have hwr := hok.wait (mk := mk) (RB k) (RP k) (by omega) (by omega) (by omega)
          refine S_aload_n X dX12_agrees_27 rfl hL6_0 ?_
          refine S_get X fgX12_71_11 0 rfl hf9 dX12_agrees_28 ?_
          refine S_bipush X dX12_agrees_31 rfl ?_
          refine S_aload_n X dX12_agrees_33 rfl hL6_0 ?_
          refine S_get X fgX12_92_11 0 rfl hf12 dX12_agrees_34 ?_
          refine S_iload_n X dX12_agrees_37 rfl hL6_1 ?_
          refine S_iald X 8 rfl (by omega) (by omega) (nle rfl) dX12_agrees_38 ?_
          refine S_imul X dX12_agrees_39 ?_
          refine S_aload_n X dX12_agrees_40 rfl hL6_0 ?_
          refine S_get X fgX12_89_11 0 rfl hf11 dX12_agrees_41 ?_
          refine S_iload_n X dX12_agrees_44 rfl hL6_1 ?_
          refine S_iald X 7 rfl (by omega) (by omega) (nle rfl) dX12_agrees_45 ?_
          refine S_iadd X dX12_agrees_46 ?_
          refine S_iald X 6 rfl (by omega) (by omega) (nle rfl) dX12_agrees_47 ?_
          refine S_aload_n X dX12_agrees_48 rfl hL6_0 ?_
          refine S_get X fgX12_95_11 0 rfl hf13 dX12_agrees_49 ?_
          refine S_iload_n X dX12_agrees_52 rfl hL6_1 ?_
          refine S_iald X 9 rfl (by omega) (by omega) (nle rfl) dX12_agrees_53 ?_
          refine S_icmp_eq (tgt := 59) X dX12_agrees_54 (by decide) (by omega) (by omega) (fun c_14 => ?_) (fun c_14 => ?_)
          ·
            refine S_iinc X dX12_agrees_59 (nle rfl) hL6_1 ?_
            refine S_goto (tgt := 6) X dX12_agrees_62 (by decide) ?_
            exact ih6 (k + 1) _ (by omega) (fun x h0 h1 => (by omega : x < k ∨ x = k).elim (fun q9 => hag x h0 q9) (fun q9 => by subst q9; exact ⟨by omega, by omega⟩)) hL6_0 rfl (by omega)
          ·
            refine S_iconst X dX12_agrees_57 ?_
            exact S_zret X (Or.inl rfl) (nle rfl) (nle rfl) dX12_agrees_58 (hPo _ _ (Or.inl ⟨_, _, _, rfl, rfl, fun h9 => by have := h9 k (by omega) (by omega); omega⟩))
  exact lp6_0 (Int.toNat (rl + 1 - 0) + 1) 0 _ (by omega) (fun x h0 h1 => by omega) rfl rfl (by omega)
set_option maxHeartbeats 4000000 in
set_option maxRecDepth 100000 in
theorem kX12_fits (l : Launch) (h0 : Nat) (f : Nat → AV) (pl : Int) (n : Int) (ec : Int) (mk : Int) (hQ : Nat) (hB : Nat) (hE : Nat) (hA : Nat) (hM : Nat) (hW : Nat) (Q : Int → Int) (B : Int → Int) (E : Int → Int) (Ab : Int → Int) (Mt : Int → Int) (Wt : Int → Int) (pp : Int) (rl : Int) (hrp : Nat) (hrb : Nat) (hrt : Nat) (RP : Int → Int) (RB : Int → Int) (RT : Int → Int) (hf0 : f 21 = iv pl) (hf1 : f 28 = iv n) (hf2 : f 29 = iv ec) (hf3 : f 26 = iv mk) (hf4 : f 20 = rv hQ) (hf5 : f 23 = rv hB) (hf6 : f 24 = rv hE) (hf7 : f 33 = rv hA) (hf8 : f 34 = rv hM) (hf9 : f 35 = rv hW) (hf10 : f 46 = iv rl) (hf11 : f 43 = rv hrp) (hf12 : f 44 = rv hrb) (hf13 : f 45 = rv hrt) (hz : okZ pl n ec (c5 Q 3) (c5 Q 4) B E) (hx_pp : inR pp) (hro : 0 ≤ rl ∧ rl ≤ 20 ∧ ∀ k, 0 ≤ k → k < rl → (0 ≤ RP k ∧ RP k < pl) ∧ (0 ≤ RB k ∧ RB k ≤ 29) ∧ (0 ≤ RT k ∧ RT k ≤ 9999)) : AMi l yX12_fits cX12_fits 5 .int 5 0 0 [rv h0, iv pp] [(h0, ob 11 f), (hQ, ar 30 Q), (hB, ar 6 B), (hE, ar 6 E), (hA, ar 1206 Ab), (hM, ar 180 Mt), (hW, ar 180 Wt), (hrp, ar 20 RP), (hrb, ar 20 RB), (hrt, ar 20 RT)] (fun z u => ∃ A2 : Int → Int, ∃ M2 : Int → Int, ∃ W2 : Int → Int, z = aFits pl n ec mk (c5 Q 3) (c5 Q 4) B E rl RP RB RT pp ∧ u = [(h0, ob 11 f), (hQ, ar 30 Q), (hB, ar 6 B), (hE, ar 6 E), (hA, ar 1206 A2), (hM, ar 180 M2), (hW, ar 180 W2), (hrp, ar 20 RP), (hrb, ar 20 RB), (hrt, ar 20 RT)]) := by
  refine AMi.of2 rfl (nle rfl) ?_
  intro D G A p e s m args below meth c Po hPo X
  have hz6 := hz.2.1
  have hz0 := hz.1
  have hzn := hz.2.2.1
  have hzm := hz.2.2.2.1
  have hze := hz.2.2.2.2
  refine S_aload_n X dX12_fits_0 rfl rfl ?_
  refine S_iload_n X dX12_fits_1 rfl rfl ?_
  refine S_calli X (kX12_isPlayer l h0 f pl pp hf0 (by omega) (by omega)) (is := [0]) rfl (run_V X lkX12_281 0 rfl rfl (is := [0]) (avs := [iv pp]) (rest := []) rfl rfl (nle rfl) ⟨nle rfl, nle rfl⟩ ⟨nle rfl, nle rfl⟩ dX12_fits_2 (by decide) rfl) (fun z_3 u_1 hp_2 => ?_)
  rcases hp_2 with ⟨hz_4, hu_5, hq_6⟩ | ⟨hz_7, hu_8, hq_9⟩
  ·
    subst hz_4
    subst hu_5
    refine ⟨rfl, ?_⟩
    refine S_w (ws' := [(h0, ob 11 f), (hQ, ar 30 Q), (hB, ar 6 B), (hE, ar 6 E), (hA, ar 1206 Ab), (hM, ar 180 Mt), (hW, ar 180 Wt), (hrp, ar 20 RP), (hrb, ar 20 RB), (hrt, ar 20 RT)]) rfl ?_
    refine S_if_ne (tgt := 10) X dX12_fits_5 (by decide) (by decide) (fun h9 => absurd h9 (by decide)) (fun _ => ?_)
    refine S_iconst X dX12_fits_8 ?_
    exact S_iret X (nle rfl) (nle rfl) dX12_fits_9 (hPo _ _ (⟨_, _, _, by unfold aFits; rw [if_neg (by omega)], rfl⟩))
  ·
    subst hz_7
    subst hu_8
    refine ⟨rfl, ?_⟩
    refine S_w (ws' := [(h0, ob 11 f), (hQ, ar 30 Q), (hB, ar 6 B), (hE, ar 6 E), (hA, ar 1206 Ab), (hM, ar 180 Mt), (hW, ar 180 Wt), (hrp, ar 20 RP), (hrb, ar 20 RB), (hrt, ar 20 RT)]) rfl ?_
    refine S_if_ne (tgt := 10) X dX12_fits_5 (by decide) (by decide) (fun _ => ?_) (fun h9 => absurd h9 (by decide))
    have hok := hz.s (by omega)
    have hpl := hok.2.1
    have hpl1 := hok.1
    have hn1 := hok.2.2.1
    have hn2 := hok.2.2.2.1
    have hec := hok.2.2.2.2
    refine S_aload_n X dX12_fits_10 rfl rfl ?_
    refine S_iload_n X dX12_fits_11 rfl rfl ?_
    refine S_iconst X dX12_fits_12 ?_
    refine S_calli X (kX12_of l h0 f hQ Q pp 3 hf4 (by omega) (by omega)) (is := [0, 1]) rfl (run_V X lkX12_284 0 rfl rfl (is := [0, 1]) (avs := [iv pp, iv 3]) (rest := []) rfl rfl (nle rfl) ⟨nle rfl, nle rfl⟩ ⟨nle rfl, nle rfl⟩ dX12_fits_13 (by decide) rfl) (fun z_14 u_12 hp_13 => ?_)
    obtain ⟨hz_15, hu_16⟩ := hp_13
    subst hz_15
    subst hu_16
    refine ⟨rfl, ?_⟩
    refine S_w (ws' := [(h0, ob 11 f), (hQ, ar 30 Q), (hB, ar 6 B), (hE, ar 6 E), (hA, ar 1206 Ab), (hM, ar 180 Mt), (hW, ar 180 Wt), (hrp, ar 20 RP), (hrb, ar 20 RB), (hrt, ar 20 RT)]) rfl ?_
    refine S_istore_n X dX12_fits_16 rfl (nle rfl) ?_
    refine S_iconst X dX12_fits_17 ?_
    refine S_istore_n X dX12_fits_18 rfl (nle rfl) ?_
    refine S_iconst X dX12_fits_19 ?_
    refine S_istore X dX12_fits_20 (nle rfl) ?_
    have lp22_1 : ∀ (N : Nat) (fo : Int) (st : Int) (Qv : Int → Int) (Aw : Int → Int) (Mw : Int → Int) (Ww : Int → Int) (L : Nat → Option AV), -1 ≤ fo ∧ fo ≤ pl → (∀ x, uZ Qv (5 * pp + 3) x = uZ Q (5 * pp + 3) x) → inR st → (fo = -1 ∧ st = 0) ∨ (0 ≤ fo ∧ st = fiB pl n ec mk (c5 Q 3) (c5 Q 4) B E rl RP RB RT pp fo.toNat) → L 0 = some (rv h0) → L 1 = some (iv pp) → L 2 = some (iv (Q (5 * pp + 3))) → L 3 = some (iv st) → L 4 = some (iv fo) → pl + 1 - fo < (N : Int) → S_ p l e (rmD 5 0 0) s m args below meth c (MQ below (QcI D G A Po) args s 0 0 A) D G A 5 0 0 22 L [] [(h0, ob 11 f), (hQ, ar 30 Qv), (hB, ar 6 B), (hE, ar 6 E), (hA, ar 1206 Aw), (hM, ar 180 Mw), (hW, ar 180 Ww), (hrp, ar 20 RP), (hrb, ar 20 RB), (hrt, ar 20 RT)] := by
      intro N
      induction N with
      | zero =>
        intro fo st Qv Aw Mw Ww L22 hf hQv hsr hfb hL22_0 hL22_1 hL22_2 hL22_3 hL22_4 hN22
        exfalso; omega
      | succ N ih22 =>
        intro fo st Qv Aw Mw Ww L22 hf hQv hsr hfb hL22_0 hL22_1 hL22_2 hL22_3 hL22_4 hN22
        refine S_iload X dX12_fits_22 hL22_4 ?_
        refine S_aload_n X dX12_fits_24 rfl hL22_0 ?_
        refine S_get X fgX12_253_11 0 rfl hf0 dX12_fits_25 ?_
        refine S_icmp_ge (tgt := 84) X dX12_fits_28 (by decide) (by omega) (by omega) (fun c_17 => ?_) (fun c_17 => ?_)
        ·
          refine S_aload_n X dX12_fits_84 rfl hL22_0 ?_
          refine S_get X fgX12_43_11 0 rfl hf4 dX12_fits_85 ?_
          refine S_iconst X dX12_fits_88 ?_
          refine S_iload_n X dX12_fits_89 rfl hL22_1 ?_
          refine S_imul X dX12_fits_90 ?_
          refine S_iconst X dX12_fits_91 ?_
          refine S_iadd X dX12_fits_92 ?_
          refine S_iload_n X dX12_fits_93 rfl hL22_2 ?_
          refine S_iast X 1 rfl (by omega) (by omega) (nle rfl) dX12_fits_94 ?_
          refine S_w (ws' := [(h0, ob 11 f), (hQ, ar 30 (uZ Qv ((5 * pp) + 3) (Q (5 * pp + 3)))), (hB, ar 6 B), (hE, ar 6 E), (hA, ar 1206 Aw), (hM, ar 180 Mw), (hW, ar 180 Ww), (hrp, ar 20 RP), (hrb, ar 20 RB), (hrt, ar 20 RT)]) rfl ?_
          refine S_iload_n X dX12_fits_95 rfl hL22_3 ?_
          exact S_iret X (nle rfl) (nle rfl) dX12_fits_96 (hPo _ _ (⟨_, _, _, by unfold aFits; rw [if_pos (by omega)]; rcases hfb with h9 | h9; (exfalso; omega); rw [h9.2, show fo = pl by omega], by rw [hQv, uZ_id]⟩))
        ·
          refine S_iload X dX12_fits_31 hL22_4 ?_
          refine S_iload_n X dX12_fits_33 rfl hL22_1 ?_
          refine S_icmp_eq (tgt := 78) X dX12_fits_34 (by decide) (by omega) (by omega) (fun c_18 => ?_) (fun c_18 => ?_)
          ·
            refine S_iinc X dX12_fits_78 (nle rfl) hL22_4 ?_
            refine S_goto (tgt := 22) X dX12_fits_81 (by decide) ?_
            exact ih22 (fo + 1) st Qv Aw Mw Ww _ (by omega) (fun x => by first | (rw [uZ_twice]; exact hQv x) | exact hQv x) (by first | exact zOr_r _ _ | assumption) (fb_same (by omega) hfb (by omega)) hL22_0 hL22_1 hL22_2 hL22_3 rfl (by omega)
          ·
            refine S_aload_n X dX12_fits_37 rfl hL22_0 ?_
            refine S_get X fgX12_43_11 0 rfl hf4 dX12_fits_38 ?_
            refine S_iconst X dX12_fits_41 ?_
            refine S_iload_n X dX12_fits_42 rfl hL22_1 ?_
            refine S_imul X dX12_fits_43 ?_
            refine S_iconst X dX12_fits_44 ?_
            refine S_iadd X dX12_fits_45 ?_
            refine S_iload X dX12_fits_46 hL22_4 ?_
            refine S_iast X 1 rfl (by omega) (by omega) (nle rfl) dX12_fits_48 ?_
            refine S_w (ws' := [(h0, ob 11 f), (hQ, ar 30 (uZ Qv ((5 * pp) + 3) fo)), (hB, ar 6 B), (hE, ar 6 E), (hA, ar 1206 Aw), (hM, ar 180 Mw), (hW, ar 180 Ww), (hrp, ar 20 RP), (hrb, ar 20 RB), (hrt, ar 20 RT)]) rfl ?_
            refine S_iload_n X dX12_fits_49 rfl hL22_3 ?_
            refine S_aload_n X dX12_fits_50 rfl hL22_0 ?_
            refine S_calli X (kX12_agrees l h0 f pl n ec mk hQ hB hE hA hM hW (uZ Qv ((5 * pp) + 3) fo) B E Aw Mw Ww rl hrp hrb hrt RP RB RT hf0 hf1 hf2 hf3 hf4 hf5 hf6 hf7 hf8 hf9 hf10 hf11 hf12 hf13 (by rw [hQv, c5_F, c5_n (by omega) (by omega) (by omega)]; exact hok.fo (by omega)) (by omega)) (is := [0, 1, 2, 3, 4, 5, 6, 7, 8, 9]) rfl (run_V X lkX12_355 0 rfl rfl (is := [0, 1, 2, 3, 4, 5, 6, 7, 8, 9]) (avs := []) (rest := [iv st]) rfl rfl (nle rfl) ⟨nle rfl, nle rfl⟩ ⟨nle rfl, nle rfl⟩ dX12_fits_51 (by decide) rfl) (fun z_21 u_19 hp_20 => ?_)
            rcases hp_20 with ⟨A2_22, M2_23, W2_24, hz_25, hu_26, hq_27⟩ | ⟨A2_28, M2_29, W2_30, hz_31, hu_32, hq_33⟩
            ·
              subst hz_25
              subst hu_26
              refine ⟨rfl, ?_⟩
              refine S_w (ws' := [(h0, ob 11 f), (hQ, ar 30 (uZ Qv ((5 * pp) + 3) fo)), (hB, ar 6 B), (hE, ar 6 E), (hA, ar 1206 A2_22), (hM, ar 180 M2_23), (hW, ar 180 W2_24), (hrp, ar 20 RP), (hrb, ar 20 RB), (hrt, ar 20 RT)]) rfl ?_
              have hq9 := hq_27
              rw [hQv, c5_F, c5_n (by omega) (by omega) (by omega)] at hq9
              have hq8 := agB_0 (pl := pl) (n := n) (ec := ec) (mk := mk) (Fo := c5 Q 3) (Ho := c5 Q 4) (B0 := B) (Lt := E) (rl := rl) (P1 := RP) (B1 := RB) (T1 := RT) (p := pp) (f := fo) hq9
              refine S_if_eq (tgt := 75) X dX12_fits_54 (by decide) (by decide) (fun _ => ?_) (fun h9 => absurd h9 (by decide))
              refine S_iconst X dX12_fits_75 ?_
              refine S_ior X dX12_fits_76 ?_
              refine S_istore_n X dX12_fits_77 rfl (nle rfl) ?_
              refine S_iinc X dX12_fits_78 (nle rfl) hL22_4 ?_
              refine S_goto (tgt := 22) X dX12_fits_81 (by decide) ?_
              exact ih22 (fo + 1) (zOr st 0) (uZ Qv ((5 * pp) + 3) fo) A2_22 M2_23 W2_24 _ (by omega) (fun x => by first | (rw [uZ_twice]; exact hQv x) | exact hQv x) (by first | exact zOr_r _ _ | assumption) (fb_no (by omega) hfb (by omega) hsr hq8) hL22_0 hL22_1 hL22_2 rfl rfl (by omega)
            ·
              subst hz_31
              subst hu_32
              refine ⟨rfl, ?_⟩
              refine S_w (ws' := [(h0, ob 11 f), (hQ, ar 30 (uZ Qv ((5 * pp) + 3) fo)), (hB, ar 6 B), (hE, ar 6 E), (hA, ar 1206 A2_28), (hM, ar 180 M2_29), (hW, ar 180 W2_30), (hrp, ar 20 RP), (hrb, ar 20 RB), (hrt, ar 20 RT)]) rfl ?_
              have hq9 := hq_33
              rw [hQv, c5_F, c5_n (by omega) (by omega) (by omega)] at hq9
              have hq8 := agB_1 (pl := pl) (n := n) (ec := ec) (mk := mk) (Fo := c5 Q 3) (Ho := c5 Q 4) (B0 := B) (Lt := E) (rl := rl) (P1 := RP) (B1 := RB) (T1 := RT) (p := pp) (f := fo) hq9
              refine S_if_eq (tgt := 75) X dX12_fits_54 (by decide) (by decide) (fun h9 => absurd h9 (by decide)) (fun _ => ?_)
              refine S_iconst X dX12_fits_57 ?_
              refine S_iload X dX12_fits_58 hL22_4 ?_
              refine S_iconst X dX12_fits_60 ?_
              refine S_icmp_ne (tgt := 69) X dX12_fits_61 (by decide) (by omega) (by decide) (fun c_36 => ?_) (fun c_36 => ?_)
              ·
                refine S_iload X dX12_fits_69 hL22_4 ?_
                refine S_ishl X dX12_fits_71 ?_
                refine S_goto (tgt := 76) X dX12_fits_72 (by decide) ?_
                refine S_ior X dX12_fits_76 ?_
                refine S_istore_n X dX12_fits_77 rfl (nle rfl) ?_
                refine S_iinc X dX12_fits_78 (nle rfl) hL22_4 ?_
                refine S_goto (tgt := 22) X dX12_fits_81 (by decide) ?_
                exact ih22 (fo + 1) (zOr st (zShl 1 fo)) (uZ Qv ((5 * pp) + 3) fo) A2_28 M2_29 W2_30 _ (by omega) (fun x => by first | (rw [uZ_twice]; exact hQv x) | exact hQv x) (by first | exact zOr_r _ _ | assumption) (fb_yes (by omega) hfb (by omega) hsr hq8) hL22_0 hL22_1 hL22_2 rfl rfl (by omega)
              ·
                refine S_bipush X dX12_fits_64 rfl ?_
                refine S_goto (tgt := 71) X dX12_fits_66 (by decide) ?_
                refine S_ishl X dX12_fits_71 ?_
                refine S_goto (tgt := 76) X dX12_fits_72 (by decide) ?_
                refine S_ior X dX12_fits_76 ?_
                refine S_istore_n X dX12_fits_77 rfl (nle rfl) ?_
                refine S_iinc X dX12_fits_78 (nle rfl) hL22_4 ?_
                refine S_goto (tgt := 22) X dX12_fits_81 (by decide) ?_
                exact ih22 (fo + 1) (zOr st (zShl 1 6)) (uZ Qv ((5 * pp) + 3) fo) A2_28 M2_29 W2_30 _ (by omega) (fun x => by first | (rw [uZ_twice]; exact hQv x) | exact hQv x) (by first | exact zOr_r _ _ | assumption) (fb_nb (by omega) hfb (by omega) hsr hq8) hL22_0 hL22_1 hL22_2 rfl rfl (by omega)
    exact lp22_1 (Int.toNat (pl + 1 - (-1)) + 1) (-1) 0 Q Ab Mt Wt _ (by omega) (fun x => rfl) (by decide) (Or.inl ⟨rfl, rfl⟩) rfl rfl rfl rfl rfl (by omega)
set_option maxHeartbeats 4000000 in
set_option maxRecDepth 100000 in
theorem kX12_echoes (l : Launch) (h0 : Nat) (f : Nat → AV) (pl : Int) (n : Int) (ec : Int) (mk : Int) (hQ : Nat) (hB : Nat) (hE : Nat) (hA : Nat) (hM : Nat) (hW : Nat) (Q : Int → Int) (B : Int → Int) (E : Int → Int) (Ab : Int → Int) (Mt : Int → Int) (Wt : Int → Int) (v : Int) (hf0 : f 21 = iv pl) (hf1 : f 28 = iv n) (hf2 : f 26 = iv mk) (hf3 : f 20 = rv hQ) (hf4 : f 23 = rv hB) (hf5 : f 24 = rv hE) (hf6 : f 33 = rv hA) (hf7 : f 34 = rv hM) (hf8 : f 35 = rv hW) (hz : okZ pl n ec (c5 Q 3) (c5 Q 4) B E) (hx_v : inR v) : AMi l yX12_echoes cX12_echoes 7 .int 6 0 0 [rv h0, iv v] [(h0, ob 11 (uF f 29 (iv ec))), (hQ, ar 30 Q), (hB, ar 6 B), (hE, ar 6 E), (hA, ar 1206 Ab), (hM, ar 180 Mt), (hW, ar 180 Wt)] (fun z u => ∃ A2 : Int → Int, ∃ M2 : Int → Int, ∃ W2 : Int → Int, z = aEchoes pl n mk (c5 Q 3) (c5 Q 4) B E v ∧ u = [(h0, ob 11 (uF f 29 (iv ec))), (hQ, ar 30 Q), (hB, ar 6 B), (hE, ar 6 E), (hA, ar 1206 A2), (hM, ar 180 M2), (hW, ar 180 W2)]) := by
  refine AMi.of2 rfl (nle rfl) ?_
  intro D G A p e s m args below meth c Po hPo X
  have hz6 := hz.2.1
  have hz0 := hz.1
  have hzn := hz.2.2.1
  have hzm := hz.2.2.2.1
  have hze := hz.2.2.2.2
  refine S_aload_n X dX12_echoes_0 rfl rfl ?_
  refine S_get X fgX12_253_11 0 rfl hf0 dX12_echoes_1 ?_
  refine S_if_eq (tgt := 16) X dX12_echoes_4 (by decide) (by omega) (fun c_1 => ?_) (fun c_1 => ?_)
  ·
    refine S_iconst X dX12_echoes_16 ?_
    exact S_iret X (nle rfl) (nle rfl) dX12_echoes_17 (hPo _ _ (⟨_, _, _, by unfold aEchoes; rw [if_neg (by omega)], rfl⟩))
  ·
    refine S_iload_n X dX12_echoes_7 rfl rfl ?_
    refine S_iconst X dX12_echoes_8 ?_
    refine S_iconst X dX12_echoes_9 ?_
    refine S_calli X (kX12_in l v 0 1 (by omega) (by omega) (by omega)) (is := []) rfl (run_S X lkX12_216 (is := []) (avs := [iv v, iv 0, iv 1]) (rest := []) rfl rfl (nle rfl) ⟨nle rfl, nle rfl⟩ ⟨nle rfl, nle rfl⟩ dX12_echoes_10 (by decide) rfl) (fun z_4 u_2 hp_3 => ?_)
    rcases hp_3 with ⟨hz_5, hu_6, hq_7⟩ | ⟨hz_8, hu_9, hq_10⟩
    ·
      subst hz_5
      subst hu_6
      refine ⟨rfl, ?_⟩
      refine S_w (ws' := [(h0, ob 11 (uF f 29 (iv ec))), (hQ, ar 30 Q), (hB, ar 6 B), (hE, ar 6 E), (hA, ar 1206 Ab), (hM, ar 180 Mt), (hW, ar 180 Wt)]) rfl ?_
      refine S_if_ne (tgt := 18) X dX12_echoes_13 (by decide) (by decide) (fun h9 => absurd h9 (by decide)) (fun _ => ?_)
      refine S_iconst X dX12_echoes_16 ?_
      exact S_iret X (nle rfl) (nle rfl) dX12_echoes_17 (hPo _ _ (⟨_, _, _, by unfold aEchoes; rw [if_neg (by omega)], rfl⟩))
    ·
      subst hz_8
      subst hu_9
      refine ⟨rfl, ?_⟩
      refine S_w (ws' := [(h0, ob 11 (uF f 29 (iv ec))), (hQ, ar 30 Q), (hB, ar 6 B), (hE, ar 6 E), (hA, ar 1206 Ab), (hM, ar 180 Mt), (hW, ar 180 Wt)]) rfl ?_
      refine S_if_ne (tgt := 18) X dX12_echoes_13 (by decide) (by decide) (fun _ => ?_) (fun h9 => absurd h9 (by decide))
      have hok := hz.s (by omega)
      have hpl := hok.2.1
      have hpl1 := hok.1
      have hn1 := hok.2.2.1
      have hn2 := hok.2.2.2.1
      have hec := hok.2.2.2.2
      refine S_aload_n X dX12_echoes_18 rfl rfl ?_
      refine S_get (v := iv ec) X fgX12_287_11 0 rfl rfl dX12_echoes_19 ?_
      refine S_istore_n X dX12_echoes_22 rfl (nle rfl) ?_
      refine S_iconst X dX12_echoes_23 ?_
      refine S_istore_n X dX12_echoes_24 rfl (nle rfl) ?_
      refine S_iconst X dX12_echoes_25 ?_
      refine S_istore X dX12_echoes_26 (nle rfl) ?_
      refine S_iconst X dX12_echoes_28 ?_
      refine S_istore X dX12_echoes_29 (nle rfl) ?_
      have lp31_2 : ∀ (N : Nat) (e9 : Int) (be : Int) (le : Int) (ev : Int) (Aw : Int → Int) (Mw : Int → Int) (Ww : Int → Int) (L : Nat → Option AV), 0 ≤ e9 ∧ e9 ≤ 4 → 0 ≤ le ∧ le ≤ 7470 → (e9 = 0 ∧ be = 0 ∧ le = 0) ∨ (1 ≤ e9 ∧ ehI pl n mk (c5 Q 3) (c5 Q 4) B E (e9 - 1) = (be, le)) → L 0 = some (rv h0) → L 1 = some (iv v) → L 2 = some (iv ec) → L 3 = some (iv be) → L 4 = some (iv le) → L 5 = some (iv e9) → 5 - e9 < (N : Int) → S_ p l e (rmD 6 0 0) s m args below meth c (MQ below (QcI D G A Po) args s 0 0 A) D G A 7 0 0 31 L [] [(h0, ob 11 (uF f 29 (iv ev))), (hQ, ar 30 Q), (hB, ar 6 B), (hE, ar 6 E), (hA, ar 1206 Aw), (hM, ar 180 Mw), (hW, ar 180 Ww)] := by
        intro N
        induction N with
        | zero =>
          intro e9 be le ev Aw Mw Ww L31 he hle heh hL31_0 hL31_1 hL31_2 hL31_3 hL31_4 hL31_5 hN31
          exfalso; omega
        | succ N ih31 =>
          intro e9 be le ev Aw Mw Ww L31 he hle heh hL31_0 hL31_1 hL31_2 hL31_3 hL31_4 hL31_5 hN31
          refine S_iload X dX12_echoes_31 hL31_5 ?_
          refine S_iconst X dX12_echoes_33 ?_
          refine S_icmp_ge (tgt := 74) X dX12_echoes_34 (by decide) (by omega) (by decide) (fun c_13 => ?_) (fun c_13 => ?_)
          ·
            refine S_aload_n X dX12_echoes_74 rfl hL31_0 ?_
            refine S_iload_n X dX12_echoes_75 rfl hL31_2 ?_
            refine S_put X fpX12_287_11 0 rfl FT_i dX12_echoes_76 ?_
            refine S_w (ws' := [(h0, ob 11 (uF f 29 (iv ec))), (hQ, ar 30 Q), (hB, ar 6 B), (hE, ar 6 E), (hA, ar 1206 Aw), (hM, ar 180 Mw), (hW, ar 180 Ww)]) (by simp only [List.set]; rw [uF_same (k := 29)]) ?_
            refine S_iload_n X dX12_echoes_79 rfl hL31_1 ?_
            refine S_if_ne (tgt := 87) X dX12_echoes_80 (by decide) (by omega) (fun c_14 => ?_) (fun c_14 => ?_)
            ·
              refine S_iload X dX12_echoes_87 hL31_4 ?_
              exact S_iret X (nle rfl) (nle rfl) dX12_echoes_89 (hPo _ _ (⟨_, _, _, by unfold aEchoes; rw [if_pos (by omega), if_neg (by omega)]; rcases heh with h9 | h9; (exfalso; omega); have h8 := h9.2; rw [show e9 - 1 = 3 by omega] at h8; exact (congrArg Prod.snd h8).symm, rfl⟩))
            ·
              refine S_iload_n X dX12_echoes_83 rfl hL31_3 ?_
              refine S_goto (tgt := 89) X dX12_echoes_84 (by decide) ?_
              exact S_iret X (nle rfl) (nle rfl) dX12_echoes_89 (hPo _ _ (⟨_, _, _, by unfold aEchoes; rw [if_pos (by omega), if_pos (by omega)]; rcases heh with h9 | h9; (exfalso; omega); have h8 := h9.2; rw [show e9 - 1 = 3 by omega] at h8; exact (congrArg Prod.fst h8).symm, rfl⟩))
          ·
            refine S_aload_n X dX12_echoes_37 rfl hL31_0 ?_
            refine S_iload X dX12_echoes_38 hL31_5 ?_
            refine S_put X fpX12_287_11 0 rfl FT_i dX12_echoes_40 ?_
            refine S_w (ws' := [(h0, ob 11 (uF f 29 (iv e9))), (hQ, ar 30 Q), (hB, ar 6 B), (hE, ar 6 E), (hA, ar 1206 Aw), (hM, ar 180 Mw), (hW, ar 180 Ww)]) (by simp only [List.set]; rw [uF_same (k := 29)]) ?_
            refine S_aload_n X dX12_echoes_43 rfl hL31_0 ?_
            refine S_calli X (kX12_worstNow l h0 (uF f 29 (iv e9)) pl n e9 mk hQ hB hE hA hM hW Q B E Aw Mw Ww hf0 hf1 rfl hf2 hf3 hf4 hf5 hf6 hf7 hf8 (hok.ec (by omega))) (is := [0, 1, 2, 3, 4, 5, 6]) rfl (run_V X lkX12_321 0 rfl rfl (is := [0, 1, 2, 3, 4, 5, 6]) (avs := []) (rest := []) rfl rfl (nle rfl) ⟨nle rfl, nle rfl⟩ ⟨nle rfl, nle rfl⟩ dX12_echoes_44 (by decide) rfl) (fun z_17 u_15 hp_16 => ?_)
            obtain ⟨A2_18, M2_19, W2_20, hz_21, hu_22⟩ := hp_16
            subst hz_21
            subst hu_22
            refine ⟨rfl, ?_⟩
            refine S_w (ws' := [(h0, ob 11 (uF f 29 (iv e9))), (hQ, ar 30 Q), (hB, ar 6 B), (hE, ar 6 E), (hA, ar 1206 A2_18), (hM, ar 180 M2_19), (hW, ar 180 W2_20)]) rfl ?_
            have hwr := (hok.ec (e2 := e9) (by omega)).worst (mk := mk)
            refine S_istore X dX12_echoes_47 (nle rfl) ?_
            refine S_iload X dX12_echoes_49 hL31_5 ?_
            refine S_if_eq (tgt := 61) X dX12_echoes_51 (by decide) (by omega) (fun c_23 => ?_) (fun c_23 => ?_)
            ·
              refine S_iload X dX12_echoes_61 hL31_5 ?_
              refine S_istore_n X dX12_echoes_63 rfl (nle rfl) ?_
              refine S_iload X dX12_echoes_64 rfl ?_
              refine S_istore X dX12_echoes_66 (nle rfl) ?_
              refine S_iinc X dX12_echoes_68 (nle rfl) hL31_5 ?_
              refine S_goto (tgt := 31) X dX12_echoes_71 (by decide) ?_
              exact ih31 (e9 + 1) e9 (WO pl n e9 mk (c5 Q 3) (c5 Q 4) B E) e9 A2_18 M2_19 W2_20 _ (by omega) (by omega) (eh_step (by omega) heh (by omega)) hL31_0 hL31_1 hL31_2 rfl rfl rfl (by omega)
            ·
              refine S_iload X dX12_echoes_54 rfl ?_
              refine S_iload X dX12_echoes_56 hL31_4 ?_
              refine S_icmp_ge (tgt := 68) X dX12_echoes_58 (by decide) (by omega) (by omega) (fun c_24 => ?_) (fun c_24 => ?_)
              ·
                refine S_iinc X dX12_echoes_68 (nle rfl) hL31_5 ?_
                refine S_goto (tgt := 31) X dX12_echoes_71 (by decide) ?_
                exact ih31 (e9 + 1) be le e9 A2_18 M2_19 W2_20 _ (by omega) (by omega) (eh_keep (by omega) heh (by omega) (by omega)) hL31_0 hL31_1 hL31_2 hL31_3 hL31_4 rfl (by omega)
              ·
                refine S_iload X dX12_echoes_61 hL31_5 ?_
                refine S_istore_n X dX12_echoes_63 rfl (nle rfl) ?_
                refine S_iload X dX12_echoes_64 rfl ?_
                refine S_istore X dX12_echoes_66 (nle rfl) ?_
                refine S_iinc X dX12_echoes_68 (nle rfl) hL31_5 ?_
                refine S_goto (tgt := 31) X dX12_echoes_71 (by decide) ?_
                exact ih31 (e9 + 1) e9 (WO pl n e9 mk (c5 Q 3) (c5 Q 4) B E) e9 A2_18 M2_19 W2_20 _ (by omega) (by omega) (eh_step (by omega) heh (by omega)) hL31_0 hL31_1 hL31_2 rfl rfl rfl (by omega)
      exact lp31_2 (Int.toNat (5 - 0) + 1) 0 0 0 ec Ab Mt Wt _ (by omega) (by omega) (Or.inl ⟨rfl, rfl, rfl⟩) rfl rfl rfl rfl rfl rfl (by omega)
set_option maxHeartbeats 4000000 in
set_option maxRecDepth 100000 in
theorem kX12_tune (l : Launch) (h0 : Nat) (f : Nat → AV) (pl : Int) (n : Int) (ec : Int) (mk : Int) (hQ : Nat) (hB : Nat) (hE : Nat) (hA : Nat) (hM : Nat) (hW : Nat) (Q : Int → Int) (B : Int → Int) (E : Int → Int) (Ab : Int → Int) (Mt : Int → Int) (Wt : Int → Int) (pp : Int) (v : Int) (lim : Int) (hf0 : f 21 = iv pl) (hf1 : f 28 = iv n) (hf2 : f 29 = iv ec) (hf3 : f 26 = iv mk) (hf4 : f 20 = rv hQ) (hf5 : f 23 = rv hB) (hf6 : f 24 = rv hE) (hf7 : f 33 = rv hA) (hf8 : f 34 = rv hM) (hf9 : f 35 = rv hW) (hf10 : f 30 = iv lim) (hz : okZ pl n ec (c5 Q 3) (c5 Q 4) B E) (hx_pp : inR pp) (hx_v : inR v) (hlim : 0 ≤ lim ∧ lim ≤ 999) : AMi l yX12_tune cX12_tune 8 .int 6 0 0 [rv h0, iv pp, iv v] [(h0, ob 11 f), (hQ, ar 30 Q), (hB, ar 6 B), (hE, ar 6 E), (hA, ar 1206 Ab), (hM, ar 180 Mt), (hW, ar 180 Wt)] (fun z u => ∃ z9 : Int, ∃ A2 : Int → Int, ∃ M2 : Int → Int, ∃ W2 : Int → Int, z = z9 ∧ u = [(h0, ob 11 f), (hQ, ar 30 Q), (hB, ar 6 B), (hE, ar 6 E), (hA, ar 1206 A2), (hM, ar 180 M2), (hW, ar 180 W2)] ∧ rTune pl n ec mk (c5 Q 3) (c5 Q 4) B E lim pp v z9) := by
  refine AMi.of2 rfl (nle rfl) ?_
  intro D G A p e s m args below meth c Po hPo X
  have hz6 := hz.2.1
  have hz0 := hz.1
  have hzn := hz.2.2.1
  have hzm := hz.2.2.2.1
  have hze := hz.2.2.2.2
  refine S_aload_n X dX12_tune_0 rfl rfl ?_
  refine S_iload_n X dX12_tune_1 rfl rfl ?_
  refine S_calli X (kX12_isPlayer l h0 f pl pp hf0 (by omega) (by omega)) (is := [0]) rfl (run_V X lkX12_281 0 rfl rfl (is := [0]) (avs := [iv pp]) (rest := []) rfl rfl (nle rfl) ⟨nle rfl, nle rfl⟩ ⟨nle rfl, nle rfl⟩ dX12_tune_2 (by decide) rfl) (fun z_3 u_1 hp_2 => ?_)
  rcases hp_2 with ⟨hz_4, hu_5, hq_6⟩ | ⟨hz_7, hu_8, hq_9⟩
  ·
    subst hz_4
    subst hu_5
    refine ⟨rfl, ?_⟩
    refine S_w (ws' := [(h0, ob 11 f), (hQ, ar 30 Q), (hB, ar 6 B), (hE, ar 6 E), (hA, ar 1206 Ab), (hM, ar 180 Mt), (hW, ar 180 Wt)]) rfl ?_
    refine S_if_eq (tgt := 17) X dX12_tune_5 (by decide) (by decide) (fun _ => ?_) (fun h9 => absurd h9 (by decide))
    refine S_iconst X dX12_tune_17 ?_
    exact S_iret X (nle rfl) (nle rfl) dX12_tune_18 (hPo _ _ (⟨_, _, _, _, rfl, rfl, Or.inl ⟨by omega, rfl⟩⟩))
  ·
    subst hz_7
    subst hu_8
    refine ⟨rfl, ?_⟩
    refine S_w (ws' := [(h0, ob 11 f), (hQ, ar 30 Q), (hB, ar 6 B), (hE, ar 6 E), (hA, ar 1206 Ab), (hM, ar 180 Mt), (hW, ar 180 Wt)]) rfl ?_
    refine S_if_eq (tgt := 17) X dX12_tune_5 (by decide) (by decide) (fun h9 => absurd h9 (by decide)) (fun _ => ?_)
    refine S_iload_n X dX12_tune_8 rfl rfl ?_
    refine S_iconst X dX12_tune_9 ?_
    refine S_iconst X dX12_tune_10 ?_
    refine S_calli X (kX12_in l v 0 1 (by omega) (by omega) (by omega)) (is := []) rfl (run_S X lkX12_216 (is := []) (avs := [iv v, iv 0, iv 1]) (rest := []) rfl rfl (nle rfl) ⟨nle rfl, nle rfl⟩ ⟨nle rfl, nle rfl⟩ dX12_tune_11 (by decide) rfl) (fun z_14 u_12 hp_13 => ?_)
    rcases hp_13 with ⟨hz_15, hu_16, hq_17⟩ | ⟨hz_18, hu_19, hq_20⟩
    ·
      subst hz_15
      subst hu_16
      refine ⟨rfl, ?_⟩
      refine S_w (ws' := [(h0, ob 11 f), (hQ, ar 30 Q), (hB, ar 6 B), (hE, ar 6 E), (hA, ar 1206 Ab), (hM, ar 180 Mt), (hW, ar 180 Wt)]) rfl ?_
      refine S_if_ne (tgt := 19) X dX12_tune_14 (by decide) (by decide) (fun h9 => absurd h9 (by decide)) (fun _ => ?_)
      refine S_iconst X dX12_tune_17 ?_
      exact S_iret X (nle rfl) (nle rfl) dX12_tune_18 (hPo _ _ (⟨_, _, _, _, rfl, rfl, Or.inl ⟨by omega, rfl⟩⟩))
    ·
      subst hz_18
      subst hu_19
      refine ⟨rfl, ?_⟩
      refine S_w (ws' := [(h0, ob 11 f), (hQ, ar 30 Q), (hB, ar 6 B), (hE, ar 6 E), (hA, ar 1206 Ab), (hM, ar 180 Mt), (hW, ar 180 Wt)]) rfl ?_
      refine S_if_ne (tgt := 19) X dX12_tune_14 (by decide) (by decide) (fun _ => ?_) (fun h9 => absurd h9 (by decide))
      have hok := hz.s (by omega)
      have hpl := hok.2.1
      have hpl1 := hok.1
      have hn1 := hok.2.2.1
      have hn2 := hok.2.2.2.1
      have hec := hok.2.2.2.2
      refine S_aload_n X dX12_tune_19 rfl rfl ?_
      have hq4 := (hok.2.2.2.2.2.2 pp (by omega) (by omega)).2.1
      unfold c5 at hq4
      refine S_iload_n X dX12_tune_20 rfl rfl ?_
      refine S_iconst X dX12_tune_21 ?_
      refine S_calli X (kX12_of l h0 f hQ Q pp 4 hf4 (by omega) (by omega)) (is := [0, 1]) rfl (run_V X lkX12_284 0 rfl rfl (is := [0, 1]) (avs := [iv pp, iv 4]) (rest := []) rfl rfl (nle rfl) ⟨nle rfl, nle rfl⟩ ⟨nle rfl, nle rfl⟩ dX12_tune_22 (by decide) rfl) (fun z_25 u_23 hp_24 => ?_)
      obtain ⟨hz_26, hu_27⟩ := hp_24
      subst hz_26
      subst hu_27
      refine ⟨rfl, ?_⟩
      refine S_w (ws' := [(h0, ob 11 f), (hQ, ar 30 Q), (hB, ar 6 B), (hE, ar 6 E), (hA, ar 1206 Ab), (hM, ar 180 Mt), (hW, ar 180 Wt)]) rfl ?_
      refine S_istore_n X dX12_tune_25 rfl (nle rfl) ?_
      refine S_iconst X dX12_tune_26 ?_
      refine S_istore X dX12_tune_27 (nle rfl) ?_
      refine S_iconst X dX12_tune_29 ?_
      refine S_istore X dX12_tune_30 (nle rfl) ?_
      refine S_iconst X dX12_tune_32 ?_
      refine S_istore X dX12_tune_33 (nle rfl) ?_
      have lp35_2 : ∀ (N : Nat) (hw : Int) (be : Int) (le : Int) (Qv : Int → Int) (Aw : Int → Int) (Mw : Int → Int) (Ww : Int → Int) (L : Nat → Option AV), 0 ≤ hw ∧ hw ≤ 11 → -1 ≤ be ∧ be ≤ 10 → (∀ x, uZ Qv (5 * pp + 4) x = uZ Q (5 * pp + 4) x) → (((be = -1 ∧ ∀ x, 0 ≤ x → x < hw → lim < WO pl n ec mk (c5 Q 3) (uZ (c5 Q 4) pp x) B E) ∨ (0 ≤ be ∧ be < hw ∧ WO pl n ec mk (c5 Q 3) (uZ (c5 Q 4) pp be) B E ≤ lim ∧ le = WO pl n ec mk (c5 Q 3) (uZ (c5 Q 4) pp be) B E ∧ ∀ x, 0 ≤ x → x < hw → WO pl n ec mk (c5 Q 3) (uZ (c5 Q 4) pp x) B E ≤ lim → (be - Q (5 * pp + 4)).natAbs < (x - Q (5 * pp + 4)).natAbs ∨ (be - Q (5 * pp + 4)).natAbs = (x - Q (5 * pp + 4)).natAbs ∧ be ≤ x))) → L 0 = some (rv h0) → L 1 = some (iv pp) → L 2 = some (iv v) → L 3 = some (iv (Q (5 * pp + 4))) → L 4 = some (iv be) → L 5 = some (iv le) → L 6 = some (iv hw) → 12 - hw < (N : Int) → S_ p l e (rmD 6 0 0) s m args below meth c (MQ below (QcI D G A Po) args s 0 0 A) D G A 8 0 0 35 L [] [(h0, ob 11 f), (hQ, ar 30 Qv), (hB, ar 6 B), (hE, ar 6 E), (hA, ar 1206 Aw), (hM, ar 180 Mw), (hW, ar 180 Ww)] := by
        intro N
        induction N with
        | zero =>
          intro hw be le Qv Aw Mw Ww L35 hh hbr hQv htu hL35_0 hL35_1 hL35_2 hL35_3 hL35_4 hL35_5 hL35_6 hN35
          exfalso; omega
        | succ N ih35 =>
          intro hw be le Qv Aw Mw Ww L35 hh hbr hQv htu hL35_0 hL35_1 hL35_2 hL35_3 hL35_4 hL35_5 hL35_6 hN35
          refine S_iload X dX12_tune_35 hL35_6 ?_
          refine S_bipush X dX12_tune_37 rfl ?_
          refine S_icmp_gt (tgt := 106) X dX12_tune_39 (by decide) (by omega) (by decide) (fun c_28 => ?_) (fun c_28 => ?_)
          ·
            refine S_aload_n X dX12_tune_106 rfl hL35_0 ?_
            refine S_get X fgX12_43_11 0 rfl hf4 dX12_tune_107 ?_
            refine S_iconst X dX12_tune_110 ?_
            refine S_iload_n X dX12_tune_111 rfl hL35_1 ?_
            refine S_imul X dX12_tune_112 ?_
            refine S_iconst X dX12_tune_113 ?_
            refine S_iadd X dX12_tune_114 ?_
            refine S_iload_n X dX12_tune_115 rfl hL35_3 ?_
            refine S_iast X 1 rfl (by omega) (by omega) (nle rfl) dX12_tune_116 ?_
            refine S_w (ws' := [(h0, ob 11 f), (hQ, ar 30 (uZ Qv ((5 * pp) + 4) (Q (5 * pp + 4)))), (hB, ar 6 B), (hE, ar 6 E), (hA, ar 1206 Aw), (hM, ar 180 Mw), (hW, ar 180 Ww)]) rfl ?_
            refine S_iload X dX12_tune_117 hL35_4 ?_
            refine S_iconst X dX12_tune_119 ?_
            refine S_icmp_eq (tgt := 127) X dX12_tune_120 (by decide) (by omega) (by decide) (fun c_29 => ?_) (fun c_29 => ?_)
            ·
              refine S_iload X dX12_tune_127 hL35_4 ?_
              refine S_goto (tgt := 134) X dX12_tune_129 (by decide) ?_
              exact S_iret X (nle rfl) (nle rfl) dX12_tune_134 (hPo _ _ (⟨_, _, _, _, rfl, by rw [hQv, uZ_id], Or.inr ⟨by omega, by omega, tu_end (P := fun x => WO pl n ec mk (c5 Q 3) (uZ (c5 Q 4) pp x) B E) htu (by omega) (by omega)⟩⟩))
            ·
              refine S_iload_n X dX12_tune_123 rfl hL35_2 ?_
              refine S_if_ne (tgt := 132) X dX12_tune_124 (by decide) (by omega) (fun c_30 => ?_) (fun c_30 => ?_)
              ·
                refine S_iload X dX12_tune_132 hL35_5 ?_
                exact S_iret X (nle rfl) (nle rfl) dX12_tune_134 (hPo _ _ (⟨_, _, _, _, rfl, by rw [hQv, uZ_id], Or.inr ⟨by omega, by omega, tu_end (P := fun x => WO pl n ec mk (c5 Q 3) (uZ (c5 Q 4) pp x) B E) htu (by omega) (by omega)⟩⟩))
              ·
                refine S_iload X dX12_tune_127 hL35_4 ?_
                refine S_goto (tgt := 134) X dX12_tune_129 (by decide) ?_
                exact S_iret X (nle rfl) (nle rfl) dX12_tune_134 (hPo _ _ (⟨_, _, _, _, rfl, by rw [hQv, uZ_id], Or.inr ⟨by omega, by omega, tu_end (P := fun x => WO pl n ec mk (c5 Q 3) (uZ (c5 Q 4) pp x) B E) htu (by omega) (by omega)⟩⟩))
          ·
            refine S_aload_n X dX12_tune_42 rfl hL35_0 ?_
            refine S_get X fgX12_43_11 0 rfl hf4 dX12_tune_43 ?_
            refine S_iconst X dX12_tune_46 ?_
            refine S_iload_n X dX12_tune_47 rfl hL35_1 ?_
            refine S_imul X dX12_tune_48 ?_
            refine S_iconst X dX12_tune_49 ?_
            refine S_iadd X dX12_tune_50 ?_
            refine S_iload X dX12_tune_51 hL35_6 ?_
            refine S_iast X 1 rfl (by omega) (by omega) (nle rfl) dX12_tune_53 ?_
            refine S_w (ws' := [(h0, ob 11 f), (hQ, ar 30 (uZ Qv ((5 * pp) + 4) hw)), (hB, ar 6 B), (hE, ar 6 E), (hA, ar 1206 Aw), (hM, ar 180 Mw), (hW, ar 180 Ww)]) rfl ?_
            refine S_aload_n X dX12_tune_54 rfl hL35_0 ?_
            refine S_calli X (kX12_worstNow l h0 f pl n ec mk hQ hB hE hA hM hW (uZ Qv ((5 * pp) + 4) hw) B E Aw Mw Ww hf0 hf1 hf2 hf3 hf4 hf5 hf6 hf7 hf8 hf9 (by rw [hQv, c5_H, c5_n (by omega) (by omega) (by omega)]; exact hok.ho (by omega))) (is := [0, 1, 2, 3, 4, 5, 6]) rfl (run_V X lkX12_321 0 rfl rfl (is := [0, 1, 2, 3, 4, 5, 6]) (avs := []) (rest := []) rfl rfl (nle rfl) ⟨nle rfl, nle rfl⟩ ⟨nle rfl, nle rfl⟩ dX12_tune_55 (by decide) rfl) (fun z_33 u_31 hp_32 => ?_)
            obtain ⟨A2_34, M2_35, W2_36, hz_37, hu_38⟩ := hp_32
            subst hz_37
            subst hu_38
            refine ⟨rfl, ?_⟩
            refine S_w (ws' := [(h0, ob 11 f), (hQ, ar 30 (uZ Qv ((5 * pp) + 4) hw)), (hB, ar 6 B), (hE, ar 6 E), (hA, ar 1206 A2_34), (hM, ar 180 M2_35), (hW, ar 180 W2_36)]) rfl ?_
            have hw1 : WO pl n ec mk (c5 (uZ Qv ((5 * pp) + 4) hw) 3) (c5 (uZ Qv ((5 * pp) + 4) hw) 4) B E = WO pl n ec mk (c5 Q 3) (uZ (c5 Q 4) pp hw) B E := by rw [hQv, c5_H, c5_n (by omega) (by omega) (by omega)]
            rw [hw1]
            have hwr := (hok.ho (p := pp) (v := hw) (by omega)).worst (mk := mk)
            refine S_istore X dX12_tune_58 (nle rfl) ?_
            refine S_iload X dX12_tune_60 rfl ?_
            refine S_aload_n X dX12_tune_62 rfl hL35_0 ?_
            refine S_get X fgX12_59_11 0 rfl hf10 dX12_tune_63 ?_
            refine S_icmp_gt (tgt := 100) X dX12_tune_66 (by decide) (by omega) (by omega) (fun c_39 => ?_) (fun c_39 => ?_)
            ·
              refine S_iinc X dX12_tune_100 (nle rfl) hL35_6 ?_
              refine S_goto (tgt := 35) X dX12_tune_103 (by decide) ?_
              exact ih35 (hw + 1) be le (uZ Qv ((5 * pp) + 4) hw) A2_34 M2_35 W2_36 _ (by omega) (by omega) (fun x => by rw [uZ_twice]; exact hQv x) (tu_big (P := fun x => WO pl n ec mk (c5 Q 3) (uZ (c5 Q 4) pp x) B E) (by omega) htu (by omega)) hL35_0 hL35_1 hL35_2 hL35_3 hL35_4 hL35_5 rfl (by omega)
            ·
              refine S_iload X dX12_tune_69 hL35_4 ?_
              refine S_iconst X dX12_tune_71 ?_
              refine S_icmp_eq (tgt := 92) X dX12_tune_72 (by decide) (by omega) (by decide) (fun c_40 => ?_) (fun c_40 => ?_)
              ·
                refine S_iload X dX12_tune_92 hL35_6 ?_
                refine S_istore X dX12_tune_94 (nle rfl) ?_
                refine S_iload X dX12_tune_96 rfl ?_
                refine S_istore X dX12_tune_98 (nle rfl) ?_
                refine S_iinc X dX12_tune_100 (nle rfl) hL35_6 ?_
                refine S_goto (tgt := 35) X dX12_tune_103 (by decide) ?_
                exact ih35 (hw + 1) hw (WO pl n ec mk (c5 Q 3) (uZ (c5 Q 4) pp hw) B E) (uZ Qv ((5 * pp) + 4) hw) A2_34 M2_35 W2_36 _ (by omega) (by omega) (fun x => by rw [uZ_twice]; exact hQv x) (tu_new (P := fun x => WO pl n ec mk (c5 Q 3) (uZ (c5 Q 4) pp x) B E) (by omega) htu (by omega) (by omega)) hL35_0 hL35_1 hL35_2 hL35_3 rfl rfl rfl (by omega)
              ·
                refine S_iload X dX12_tune_75 hL35_6 ?_
                refine S_iload_n X dX12_tune_77 rfl hL35_3 ?_
                refine S_isub X dX12_tune_78 ?_
                refine S_mabs X lkX12_358 rfl rfl (by omega) (nle rfl) (nle rfl) (nle rfl) (nle rfl) dX12_tune_79 ?_
                refine S_iload X dX12_tune_82 hL35_4 ?_
                refine S_iload_n X dX12_tune_84 rfl hL35_3 ?_
                refine S_isub X dX12_tune_85 ?_
                refine S_mabs X lkX12_358 rfl rfl (by omega) (nle rfl) (nle rfl) (nle rfl) (nle rfl) dX12_tune_86 ?_
                refine S_icmp_ge (tgt := 100) X dX12_tune_89 (by decide) (by omega) (by omega) (fun c_41 => ?_) (fun c_41 => ?_)
                ·
                  refine S_iinc X dX12_tune_100 (nle rfl) hL35_6 ?_
                  refine S_goto (tgt := 35) X dX12_tune_103 (by decide) ?_
                  exact ih35 (hw + 1) be le (uZ Qv ((5 * pp) + 4) hw) A2_34 M2_35 W2_36 _ (by omega) (by omega) (fun x => by rw [uZ_twice]; exact hQv x) (tu_old (P := fun x => WO pl n ec mk (c5 Q 3) (uZ (c5 Q 4) pp x) B E) (by omega) htu (by omega) (by omega)) hL35_0 hL35_1 hL35_2 hL35_3 hL35_4 hL35_5 rfl (by omega)
                ·
                  refine S_iload X dX12_tune_92 hL35_6 ?_
                  refine S_istore X dX12_tune_94 (nle rfl) ?_
                  refine S_iload X dX12_tune_96 rfl ?_
                  refine S_istore X dX12_tune_98 (nle rfl) ?_
                  refine S_iinc X dX12_tune_100 (nle rfl) hL35_6 ?_
                  refine S_goto (tgt := 35) X dX12_tune_103 (by decide) ?_
                  exact ih35 (hw + 1) hw (WO pl n ec mk (c5 Q 3) (uZ (c5 Q 4) pp hw) B E) (uZ Qv ((5 * pp) + 4) hw) A2_34 M2_35 W2_36 _ (by omega) (by omega) (fun x => by rw [uZ_twice]; exact hQv x) (tu_new (P := fun x => WO pl n ec mk (c5 Q 3) (uZ (c5 Q 4) pp x) B E) (by omega) htu (by omega) (by omega)) hL35_0 hL35_1 hL35_2 hL35_3 rfl rfl rfl (by omega)
      exact lp35_2 (Int.toNat (12 - 0) + 1) 0 (-1) 0 Q Ab Mt Wt _ (by omega) (by omega) (fun x => rfl) (Or.inl ⟨rfl, fun x h0 h1 => by omega⟩) rfl rfl rfl rfl rfl rfl rfl (by omega)
end pt_38rq2
