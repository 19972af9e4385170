/-! WEEK: the class's answer is the reference's -/
section ZW
variable {pl n ec mk mt : Int} {Fo Ho B Lt F2 H2 B2 L2 Kd Dr Kd2 Dr2 wet : Int → Int}
theorem wkN_l (hs : okS pl n ec Fo Ho B Lt) (hod : okDy pl mt Kd Dr) (hw : ∀ x, 0 ≤ x → x < 6 → 0 ≤ wet x ∧ wet x ≤ 9) (l1 l2 : Int) : wkN pl n ec mk mt Fo Ho Lt Kd Dr wet 6 0 0 B (-1, l1) = wkN pl n ec mk mt Fo Ho Lt Kd Dr wet 6 0 0 B (-1, l2) := by
  have hb : bhW pl mt Kd Dr wet B (fun z => drF (Kd (z / 7)) (Dr (z / 7)) (5 - (z % 7 - 1)) (sfW wet (z % 7 - 1)) (if z % 7 - 1 = -1 then B (z / 7) else mt)) := fun x d h0 h1 h2 h3 => by
    show drF (Kd ((x * 7 + d + 1) / 7)) (Dr ((x * 7 + d + 1) / 7)) (5 - ((x * 7 + d + 1) % 7 - 1)) (sfW wet ((x * 7 + d + 1) % 7 - 1)) (if (x * 7 + d + 1) % 7 - 1 = -1 then B ((x * 7 + d + 1) / 7) else mt) = _
    rw [show (x * 7 + d + 1) / 7 = x by omega, show (x * 7 + d + 1) % 7 - 1 = d by omega]
  exact (wk_eq (mk := mk) hs hod hw hb (fun p h0 h1 => ⟨rfl, rfl, rfl⟩) (fun p h0 h1 => rfl) l1).symm.trans (wk_eq hs hod hw hb (fun p h0 h1 => ⟨rfl, rfl, rfl⟩) (fun p h0 h1 => rfl) l2)
theorem aWeek_c (hz : okZ pl n ec Fo Ho B Lt) (hod : okDy pl mt Kd Dr) (e : teq pl Fo Ho B Lt F2 H2 B2 L2) (eK : ∀ p, 0 ≤ p → p < pl → Kd p = Kd2 p ∧ Dr p = Dr2 p) (hw : ∀ x, 0 ≤ x → x < 6 → 0 ≤ wet x ∧ wet x ≤ 9) {dy q l1 l2 : Int} : aWeekR pl n ec mk mt dy Fo Ho B Lt Kd Dr wet q l1 = aWeekR pl n ec mk mt dy F2 H2 B2 L2 Kd2 Dr2 wet q l2 := by
  unfold aWeekR
  by_cases c : 1 ≤ pl ∧ (q = 0 ∨ q = 1) ∧ dy + 6 ≤ 1000
  · have hs := hz.s c.1
    rw [if_pos c, if_pos c, wkN_l hs hod hw l1 l2, wkN_c (F3 := F2) (H3 := H2) (L3 := L2) (K3 := Kd2) (D3 := Dr2) (w3 := wet) hod eK (fun x _ _ => rfl) 6 0 0 B B2 _ (Int.le_refl 0) rfl hs e]
  · rw [if_neg c, if_neg c]
end ZW
section ZX
variable {a b : Nat → Nat} {v : Nat → Int} {g : Nat → Int → Int} {R : Int → Int → Int} {ds : List LwS} {ys : Nat → LwY} {w : Nat → Int} {h : Nat → Int → Int} {z y y1 : Int} {u u2 : EW}
theorem ans_week (hI : Inv v g ds ys w h) (h1 : QX11_week a v g R ds ys y1 z u) (h2 : (w 21 = 0 ∧ y = -1 ∧ u2 = RW b w h) ∨ (1 ≤ w 21 ∧ QX12_week b w h ds y1 y u2)) : z = y := by
  have hpl := hI.pl
  obtain ⟨e1, e2, e3, e4, e5⟩ := hI.es
  obtain ⟨_, _, _, _, _, _, _, _, _, _, _, _, _, _, _, _, _, _, _, _, _, hz, -⟩ := h1
  rcases h2 with ⟨hp, hy, -⟩ | ⟨hp, h2⟩
  · rw [hz, hy]
    unfold aWeekR
    rw [if_neg (by omega)]
  · obtain ⟨_, _, _, _, _, _, _, _, _, hy, -⟩ := h2
    obtain ⟨q1, q2⟩ := hI.2.2.2.1
    obtain ⟨o1, o2⟩ := q1 (by omega)
    have e27 : w 27 = v 2 := hI.2.1.2.2.2.2.1
    have e25 : w 25 = v 15 := hI.2.2.2.2.1.2.2.2.2.2.1
    have htd := hI.ctd
    rw [hz, hy, e1, e2, e3, e4, o2, e27, e25]
    exact aWeek_c hI.cz o1 hI.te (fun p a0 a1 => ⟨(q2 p a0 a1).2.2.symm, (q2 p a0 a1).2.1.symm⟩) (fun x x0 x1 => aDy_in (by omega))
end ZX
