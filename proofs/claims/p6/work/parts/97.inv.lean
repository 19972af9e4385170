/-! WHAT HOLDS BETWEEN CALLS: of the class, of the reference, of both -/
def iT (T : Int → Int) (n : Int) (T2 : Int → Int) (n2 : Int) : Prop := okT T n ∧ T2 = T ∧ n2 = n
def iL (ds : List LwS) (ys : Nat → LwY) (lw ho mt pl lw2 ho2 : Int) (C V Lk Tf Sf Ef : Int → Int) : Prop := ((ds.length : Int) = lw ∧ 0 ≤ lw ∧ lw ≤ 4) ∧ okW ds ys mt pl ∧ (-1 ≤ ho ∧ ho < lw) ∧ lw2 = lw ∧ ho2 = ho ∧ ∀ i, 0 ≤ i → i < lw → lawAt C V Lk Tf Sf Ef i (csA ds i)
def iS (pl n ec mk lim pl2 n2 ec2 mk2 lim2 : Int) (F H B L Q B2 E2 : Int → Int) : Prop := okZ pl n ec F H B L ∧ (0 ≤ lim ∧ lim ≤ 999) ∧ pl2 = pl ∧ n2 = n ∧ ec2 = ec ∧ mk2 = mk ∧ lim2 = lim ∧ ∀ p, 0 ≤ p → p < pl → c5 Q 3 p = F p ∧ c5 Q 4 p = H p ∧ B2 p = B p ∧ E2 p = L p
def iW (pl mt mt2 : Int) (WB WD WK Q : Int → Int) : Prop := (1 ≤ pl → okDy pl mt WK WD ∧ mt2 = mt) ∧ ∀ p, 0 ≤ p → p < pl → c5 Q 0 p = WB p ∧ c5 Q 1 p = WD p ∧ c5 Q 2 p = WK p
def iD (pl td un hi im nx td2 un2 hi2 im2 : Int) (DI DR K Ib : Int → Int) : Prop := (0 ≤ nx ∧ nx ≤ 59) ∧ (0 ≤ un ∧ un ≤ 60) ∧ un ≤ td ∧ td ≤ 1000 ∧ (hi = 0 ∨ hi = 1) ∧ td2 = td ∧ un2 = un ∧ hi2 = hi ∧ (∀ k, 0 ≤ k → k < un → ∀ p, 0 ≤ p → p < pl → K (6 * (un - 1 - k) + p) = DR ((nx - 1 - k) % 60 * 6 + p) ∧ 1 ≤ DR ((nx - 1 - k) % 60 * 6 + p) ∧ DR ((nx - 1 - k) % 60 * 6 + p) ≤ 199) ∧ (hi = 1 → im2 = im ∧ 0 ≤ im ∧ im ≤ 1000 ∧ ∀ p, 0 ≤ p → p < pl → Ib p = DI p ∧ 1 ≤ DI p ∧ DI p ≤ 199)
def iR (pl rl rl2 : Int) (To P B T : Int → Int) : Prop := (0 ≤ rl ∧ rl ≤ 20) ∧ rl2 = rl ∧ ∀ k, 0 ≤ k → k < rl → ((0 ≤ t3a To k ∧ t3a To k < pl) ∧ (0 ≤ t3b To k ∧ t3b To k ≤ 29) ∧ (0 ≤ t3c To k ∧ t3c To k ≤ 9999)) ∧ P k = t3a To k ∧ B k = t3b To k ∧ T k = t3c To k
def iM (fe bt : Int) (Cn Mm : Int → Int) : Prop := (0 ≤ fe ∧ fe ≤ 1000000000) ∧ inR bt ∧ (∀ x, 0 ≤ x → x < 31 → 0 ≤ Cn x ∧ Cn x ≤ 1000000000) ∧ (∀ x, 0 ≤ x → x < 31 → inR (Mm x))
def iK (kk ro le : Int) (Kw : Int → Int) : Prop := (∀ x, 0 ≤ x → x < 6 → 0 ≤ Kw x ∧ Kw x ≤ 9) ∧ (kk = 0 ∨ kk = 1) ∧ (0 ≤ ro ∧ ro ≤ 1000000000 ∧ 0 ≤ le ∧ le ≤ 1000000000)
def Inv (v : Nat → Int) (g : Nat → Int → Int) (ds : List LwS) (ys : Nat → LwY) (w : Nat → Int) (h : Nat → Int → Int) : Prop :=
  iT (g 21) (v 4) (h 1) (w 2) ∧
  iL ds ys (v 1) (v 2) (v 14) (v 13) (w 13) (w 27) (h 6) (h 7) (h 9) (h 10) (h 11) (h 12) ∧
  iS (v 13) (v 21) (v 22) (v 23) (v 0) (w 21) (w 28) (w 29) (w 26) (w 30) (g 39) (g 40) (g 38) (g 41) (h 20) (h 23) (h 24) ∧
  iW (v 13) (v 14) (w 22) (g 32) (g 33) (g 34) (h 20) ∧
  iD (v 13) (v 15) (v 16) (v 17) (v 18) (v 19) (w 25) (w 32) (w 49) (w 48) (g 0) (g 1) (h 31) (h 47) ∧
  iR (v 13) (v 3) (w 46) (g 2) (h 43) (h 44) (h 45) ∧
  iM (v 33) (v 34) (g 14) (g 15) ∧
  iK (v 35) (v 36) (v 37) (g 17)
def PR (a b : Nat → Nat) (u u2 : EW) : Prop := ∃ (v : Nat → Int) (g : Nat → Int → Int) (R : Int → Int → Int) (ds : List LwS) (ys : Nat → LwY) (w : Nat → Int) (h : Nat → Int → Int), u = CW a v g R ds ys ∧ u2 = RW b w h ∧ Inv v g ds ys w h
theorem okZ_e {pl n ec : Int} {F H B L F2 H2 B2 L2 : Int → Int} (h : okZ pl n ec F H B L) (e : ∀ p, 0 ≤ p → p < pl → F2 p = F p ∧ H2 p = H p ∧ B2 p = B p ∧ L2 p = L p) : okZ pl n ec F2 H2 B2 L2 := by
  obtain ⟨h1, h2, h3, h4, h5, h6, h7⟩ := h
  refine ⟨h1, h2, h3, h4, h5, h6, fun p a0 a1 => ?_⟩
  obtain ⟨e1, e2, e3, e4⟩ := e p a0 a1
  rw [e1, e2, e3, e4]
  exact h7 p a0 a1
theorem okZ_B {pl n ec : Int} {F H B L B2 : Int → Int} (h : okZ pl n ec F H B L) (hB : ∀ p, 0 ≤ p → p < pl → 1 ≤ B2 p ∧ B2 p ≤ 199) : okZ pl n ec F H B2 L := by
  obtain ⟨h1, h2, h3, h4, h5, h6, h7⟩ := h
  refine ⟨h1, h2, h3, h4, h5, h6, fun p a0 a1 => ?_⟩
  obtain ⟨k1, k2, k3, k4⟩ := h7 p a0 a1
  exact ⟨k1, k2, hB p a0 a1, k4⟩
theorem okZ_b {pl n ec : Int} {F H B L : Int → Int} (h : okZ pl n ec F H B L) : ∀ p, 0 ≤ p → p < pl → 1 ≤ B p ∧ B p ≤ 199 := fun p a0 a1 => (h.2.2.2.2.2.2 p a0 a1).2.2.1
theorem okT_wr {T : Int → Int} {n : Int} {l : List Int} (h : okT T n) (hl : ∀ t ∈ l, 1 ≤ t ∧ t ≤ 255) (hn : n + (l.length : Int) ≤ 160) : okT (wrL T n l) (n + (l.length : Int)) := by
  obtain ⟨h0, h1, h2⟩ := h
  refine ⟨by omega, hn, fun j a0 a1 => ?_⟩
  by_cases hj : j < n
  · rw [wrL_lo hj]
    exact h2 j a0 hj
  · have hi : (j - n).toNat < l.length := by omega
    have e := wrL_in (g := T) (k := n) (List.getElem?_eq_getElem hi)
    rw [show n + (((j - n).toNat : Nat) : Int) = j by omega] at e
    rw [e]
    exact hl _ (List.getElem_mem hi)
section IV
variable {a b : Nat → Nat} {v : Nat → Int} {g : Nat → Int → Int} {R : Int → Int → Int} {ds : List LwS} {ys : Nat → LwY} {w : Nat → Int} {h : Nat → Int → Int}
/-- what the contracts of the reference ask for -/
theorem Inv.rz (hI : Inv v g ds ys w h) : okZ (w 21) (w 28) (w 29) (c5 (h 20) 3) (c5 (h 20) 4) (h 23) (h 24) := by
  obtain ⟨-, -, ⟨k1, k2, e1, e2, e3, e4, e5, k3⟩, -⟩ := hI
  rw [e1, e2, e3]
  exact okZ_e k1 k3
theorem Inv.pl (hI : Inv v g ds ys w h) : w 21 = v 13 := hI.2.2.1.2.2.1
theorem Inv.pl6 (hI : Inv v g ds ys w h) : 0 ≤ v 13 ∧ v 13 ≤ 6 := ⟨hI.2.2.1.1.1, hI.2.2.1.1.2.1⟩
theorem Inv.rpl (hI : Inv v g ds ys w h) : 0 ≤ w 21 ∧ w 21 ≤ 6 := by rw [hI.pl]; exact hI.pl6
theorem Inv.rlim (hI : Inv v g ds ys w h) : 0 ≤ w 30 ∧ w 30 ≤ 999 := by
  obtain ⟨-, -, ⟨k1, k2, e1, e2, e3, e4, e5, k3⟩, -⟩ := hI
  rw [e5]
  exact k2
theorem Inv.rlw (hI : Inv v g ds ys w h) : 0 ≤ w 13 ∧ w 13 ≤ 4 := by
  obtain ⟨-, ⟨k1, k2, k3, e1, e2, k4⟩, -⟩ := hI
  rw [e1]
  exact k1.2
theorem Inv.rT (hI : Inv v g ds ys w h) : okT (h 1) (w 2) := by
  obtain ⟨⟨k, e1, e2⟩, -⟩ := hI
  rw [e1, e2]
  exact k
theorem Inv.rn (hI : Inv v g ds ys w h) : 0 ≤ w 2 ∧ w 2 ≤ 160 := ⟨hI.rT.1, hI.rT.2.1⟩
theorem Inv.ho (hI : Inv v g ds ys w h) : w 27 = -1 ∨ (0 ≤ w 27 ∧ w 27 ≤ 3 ∧ lawAt (h 6) (h 7) (h 9) (h 10) (h 11) (h 12) (w 27) (csA ds (w 27))) := by
  obtain ⟨-, ⟨k1, k2, k3, e1, e2, k4⟩, -⟩ := hI
  rw [e2]
  by_cases hh : v 2 = -1
  · exact Or.inl hh
  · exact Or.inr ⟨by omega, by omega, k4 _ (by omega) k3.2⟩
theorem Inv.rdy (hI : Inv v g ds ys w h) (h1 : 1 ≤ v 13) : okDy (w 21) (w 22) (c5 (h 20) 2) (c5 (h 20) 1) := by
  obtain ⟨-, -, ⟨-, -, e1, -⟩, ⟨k1, k2⟩, -⟩ := hI
  obtain ⟨⟨k3, k4, k5⟩, e2⟩ := k1 h1
  rw [e1, e2]
  refine ⟨k3, k4, fun p a0 a1 => ?_⟩
  obtain ⟨-, e3, e4⟩ := k2 p a0 a1
  rw [e3, e4]
  exact k5 p a0 a1
theorem Inv.rpm (hI : Inv v g ds ys w h) (h1 : 1 ≤ v 13) : (0 ≤ w 21 ∧ w 21 ≤ 6) ∧ 1 ≤ w 22 ∧ w 22 ≤ 99 := ⟨hI.rpl, (hI.rdy h1).1, (hI.rdy h1).2.1⟩
theorem Inv.rB (hI : Inv v g ds ys w h) : ∀ p, 0 ≤ p → p < w 21 → 1 ≤ h 23 p ∧ h 23 p ≤ 199 := okZ_b hI.rz
theorem Inv.rtd (hI : Inv v g ds ys w h) : 0 ≤ w 25 ∧ w 25 ≤ 1000 := by
  obtain ⟨-, -, -, -, ⟨-, k2, k3, k4, -, e1, -⟩, -⟩ := hI
  rw [e1]
  omega
theorem Inv.rac (hI : Inv v g ds ys w h) : 0 ≤ w 32 ∧ w 32 ≤ 60 := by
  obtain ⟨-, -, -, -, ⟨-, k2, -, -, -, -, e1, -⟩, -⟩ := hI
  rw [e1]
  exact k2
theorem Inv.rhi (hI : Inv v g ds ys w h) : w 49 = 0 ∨ w 49 = 1 := by
  obtain ⟨-, -, -, -, ⟨-, -, -, -, k, -, -, e1, -⟩, -⟩ := hI
  rw [e1]
  exact k
theorem Inv.rrl (hI : Inv v g ds ys w h) : 0 ≤ w 46 ∧ w 46 ≤ 20 := by
  obtain ⟨-, -, -, -, -, ⟨k, e1, -⟩, -⟩ := hI
  rw [e1]
  exact k
theorem Inv.rro (hI : Inv v g ds ys w h) : 0 ≤ w 46 ∧ w 46 ≤ 20 ∧ ∀ k, 0 ≤ k → k < w 46 → (0 ≤ h 43 k ∧ h 43 k < w 21) ∧ (0 ≤ h 44 k ∧ h 44 k ≤ 29) ∧ (0 ≤ h 45 k ∧ h 45 k ≤ 9999) := by
  obtain ⟨-, -, ⟨-, -, e0, -⟩, -, -, ⟨k, e1, k2⟩, -⟩ := hI
  rw [e0, e1]
  refine ⟨k.1, k.2, fun j a0 a1 => ?_⟩
  obtain ⟨k3, k4, k5, k6⟩ := k2 j a0 a1
  rw [k4, k5, k6]
  exact k3
/-- .. and those of the class -/
theorem Inv.cro (hI : Inv v g ds ys w h) : 0 ≤ v 3 ∧ v 3 ≤ 20 ∧ ∀ k, 0 ≤ k → k < v 3 → (0 ≤ t3a (g 2) k ∧ t3a (g 2) k < v 13) ∧ (0 ≤ t3b (g 2) k ∧ t3b (g 2) k ≤ 29) ∧ (0 ≤ t3c (g 2) k ∧ t3c (g 2) k ≤ 9999) := by
  obtain ⟨-, -, -, -, -, ⟨k, e1, k2⟩, -⟩ := hI
  exact ⟨k.1, k.2, fun j a0 a1 => (k2 j a0 a1).1⟩
theorem Inv.cdy (hI : Inv v g ds ys w h) : 1 ≤ v 13 → okDy (v 13) (v 14) (g 34) (g 33) := fun h1 => (hI.2.2.2.1.1 h1).1
theorem Inv.cmt (hI : Inv v g ds ys w h) : 1 ≤ v 13 → 1 ≤ v 14 ∧ v 14 ≤ 99 := fun h1 => ⟨(hI.cdy h1).1, (hI.cdy h1).2.1⟩
theorem Inv.ctd (hI : Inv v g ds ys w h) : 0 ≤ v 15 ∧ v 15 ≤ 1000 := by
  obtain ⟨-, -, -, -, ⟨-, k2, k3, k4, -⟩, -⟩ := hI
  omega
end IV
/-! THE LAWS' TABLES: what is laid elsewhere changes nothing -/
theorem tkA_e {C V C2 V2 : Int → Int} {x : Int} {ts : List Int} (h : tkA C V x ts) (e : ∀ i, x ≤ i → i < x + (ts.length : Int) → C2 i = C i ∧ V2 i = V i) : tkA C2 V2 x ts := fun j t ht => by
  have hj := (List.getElem?_eq_some_iff.mp ht).1
  have e1 := e (x + j) (by omega) (by omega)
  rw [e1.1, e1.2]
  exact h j t ht
theorem lwA_e {C V Tf Sf Ef C2 V2 T2 S2 E2 : Int → Int} {x om : Int} (eC : ∀ i, x ≤ i → i < x + om → C2 i = C i ∧ V2 i = V i) : ∀ (cs : List (List Int × List Int)) (c o : Int), 0 ≤ o → o + ((codesOf cs).length : Int) ≤ om → (∀ i, c ≤ i → i < c + (cs.length : Int) → T2 i = Tf i ∧ S2 i = Sf i ∧ E2 i = Ef i) → lwA C V Tf Sf Ef x c o cs → lwA C2 V2 T2 S2 E2 x c o cs
  | [], _, _, _, _, _, _ => trivial
  | p :: r, c, o, ho, hl, eT, hh => by
    obtain ⟨h1, h2, h3, h4, h5, h6⟩ := hh
    rw [codesOf_c] at hl
    have e0 := eT c (Int.le_refl _) (by rw [List.length_cons]; omega)
    refine ⟨by rw [e0.1]; exact h1, by rw [e0.2.1]; exact h2, by rw [e0.2.2]; exact h3, tkA_e h4 (fun i a0 a1 => eC i (by omega) (by omega)), tkA_e h5 (fun i a0 a1 => eC i (by omega) (by omega)), lwA_e eC r (c + 1) _ (by omega) (by omega) (fun i a0 a1 => eT i (by omega) (by rw [List.length_cons]; omega)) h6⟩
theorem lawAt_e {C V Lk Tf Sf Ef C2 V2 L2 T2 S2 E2 : Int → Int} {i tx : Int} {cs : List (List Int × List Int)} (hl : lawAt C V Lk Tf Sf Ef i cs) (h0 : 0 ≤ i) (hi : i ≠ tx) (fC : frm tx C C2) (fV : frm tx V V2) (fT : frp tx Tf T2) (fS : frp tx Sf S2) (fE : frp tx Ef E2) (eL : L2 i = Lk i) : lawAt C2 V2 L2 T2 S2 E2 i cs := by
  obtain ⟨h1, h2, h3, h4, h5⟩ := hl
  refine ⟨by rw [eL]; exact h1, h2, h3, lwA_e (om := 340) (fun j a0 a1 => ⟨fC j (by omega), fV j (by omega)⟩) cs _ 0 (by omega) (by omega) (fun j a0 a1 => ⟨fT j (by omega), fS j (by omega), fE j (by omega)⟩) h4, h5⟩
/-- .. and what was laid is there -/
theorem lwA_new {C V Tf Sf Ef : Int → Int} {x : Int} : ∀ (cs : List (List Int × List Int)) (c o : Int), (∀ (j : Nat) (t : Int), (codesOf cs)[j]? = some t → C (x + o + j) = kC t ∧ V (x + o + j) = kV t) → (∀ (j : Nat) (t : Int), (tfOf o cs)[j]? = some t → Tf (c + j) = t) → (∀ (j : Nat) (t : Int), (sfOf o cs)[j]? = some t → Sf (c + j) = t) → (∀ (j : Nat) (t : Int), (stOf o cs)[j]? = some t → Ef (c + j) = t) → lwA C V Tf Sf Ef x c o cs
  | [], _, _, _, _, _, _ => trivial
  | p :: r, c, o, hC, hT, hS, hE => by
    have ec : codesOf (p :: r) = p.1 ++ (p.2 ++ codesOf r) := by unfold codesOf; rw [List.flatMap_cons, List.append_assoc]
    have z : ∀ y : Int, y + ((0 : Nat) : Int) = y := fun y => by omega
    refine ⟨by have := hT 0 _ rfl; rwa [z] at this, by have := hS 0 _ rfl; rwa [z] at this, by have := hE 0 _ rfl; rwa [z] at this, fun j t ht => ?_, fun j t ht => ?_, lwA_new r (c + 1) _ (fun j t ht => ?_) (fun j t ht => ?_) (fun j t ht => ?_) (fun j t ht => ?_)⟩
    · have hj := (List.getElem?_eq_some_iff.mp ht).1
      exact hC j t (by rw [ec, List.getElem?_append_left hj]; exact ht)
    · have hj := (List.getElem?_eq_some_iff.mp ht).1
      have e1 := hC (p.1.length + j) t (by rw [ec, List.getElem?_append_right (by omega), Nat.add_sub_cancel_left, List.getElem?_append_left hj]; exact ht)
      rw [show x + (o + (p.1.length : Int)) + (j : Int) = x + o + ((p.1.length + j : Nat) : Int) by omega]
      exact e1
    · have e1 := hC (p.1.length + (p.2.length + j)) t (by rw [ec, List.getElem?_append_right (by omega), Nat.add_sub_cancel_left, List.getElem?_append_right (by omega), Nat.add_sub_cancel_left]; exact ht)
      rw [show x + (o + (p.1.length : Int) + (p.2.length : Int)) + (j : Int) = x + o + ((p.1.length + (p.2.length + j) : Nat) : Int) by omega]
      exact e1
    · have e1 := hT (j + 1) t ht
      rw [show c + 1 + (j : Int) = c + ((j + 1 : Nat) : Int) by omega]
      exact e1
    · have e1 := hS (j + 1) t ht
      rw [show c + 1 + (j : Int) = c + ((j + 1 : Nat) : Int) by omega]
      exact e1
    · have e1 := hE (j + 1) t ht
      rw [show c + 1 + (j : Int) = c + ((j + 1 : Nat) : Int) by omega]
      exact e1
theorem lawAt_new {C V Lk Tf Sf Ef T : Int → Int} {n i : Int} {cs : List (List Int × List Int)} (h0 : 0 ≤ i) (hn : n ≤ 160) (hn0 : 0 ≤ n) (hr : pLawLS T n 161 0 [] = .inr cs) (hl : ((codesOf cs).length : Int) ≤ 160 ∧ 2 * (cs.length : Int) ≤ 160) : lawAt (wrL C (340 * i + 0) (List.map kC (codesOf cs))) (wrL V (340 * i + 0) (List.map kV (codesOf cs))) (uZ Lk i (0 + ((cs).length : Int))) (wrL Tf (90 * i + 0) (tfOf 0 cs)) (wrL Sf (90 * i + 0) (sfOf 0 cs)) (wrL Ef (90 * i + 0) (stOf 0 cs)) i cs := by
  refine ⟨by rw [uZ_at]; omega, hl.1, hl.2, lwA_new cs _ 0 (fun j t ht => ?_) (fun j t ht => ?_) (fun j t ht => ?_) (fun j t ht => ?_), okLaw_read hn hn0 hr⟩
  · exact ⟨wrL_in (by rw [List.getElem?_map, ht]; rfl), wrL_in (by rw [List.getElem?_map, ht]; rfl)⟩
  · rw [show 90 * i + (j : Int) = 90 * i + 0 + (j : Int) by omega]
    exact wrL_in ht
  · rw [show 90 * i + (j : Int) = 90 * i + 0 + (j : Int) by omega]
    exact wrL_in ht
  · rw [show 90 * i + (j : Int) = 90 * i + 0 + (j : Int) by omega]
    exact wrL_in ht
