/-! MARKS: the class's answer is the reference's -/
theorem spM_c {pl : Int} {D D2 : Int → Int → Int} (hp : 0 ≤ pl) {s b : Int} (h0 : 0 ≤ s) (h : s ≤ b) (e : ∀ b p, 0 ≤ b → 0 ≤ p → p < pl → D b p = D2 b p) : spM pl D s b = spM pl D2 s b := by
  have k : ∀ x, 0 ≤ x → x < pl → sgM D s (b + 1) x = sgM D2 s (b + 1) x := fun x x0 x1 => by
    unfold sgM
    exact smI_c _ (by omega) (fun y y0 y1 => e (s + y) x (by omega) x0 x1)
  unfold spM
  rw [mxI_c pl hp k, mnI_c pl hp k]
theorem gdM_c {pl lim : Int} {D D2 : Int → Int → Int} (hp : 0 ≤ pl) {s b : Int} (h0 : 0 ≤ s) (e : ∀ b p, 0 ≤ b → 0 ≤ p → p < pl → D b p = D2 b p) : gdM pl lim D s b ↔ gdM pl lim D2 s b :=
  ⟨fun q c c0 c1 => by rw [← spM_c hp h0 c0 e]; exact q c c0 c1, fun q c c0 c1 => by rw [spM_c hp h0 c0 e]; exact q c c0 c1⟩
theorem PW_c {ok ok2 : Int → Int → Prop} {n : Int} (e : ∀ i b, 0 ≤ i → (ok i b ↔ ok2 i b)) : ∀ (xs : List Int) (i j : Int), 0 ≤ i → (PWl ok n xs i j ↔ PWl ok2 n xs i j) := by
  intro xs
  induction xs with
  | nil => exact fun i j _ => Iff.rfl
  | cons b r ih =>
    intro i j h0
    constructor
    · rintro ⟨h1, h2, h3, h4⟩
      exact ⟨h1, h2, (e i b h0).mp h3, (ih (b + 1) j (by omega)).mp h4⟩
    · rintro ⟨h1, h2, h3, h4⟩
      exact ⟨h1, h2, (e i b h0).mpr h3, (ih (b + 1) j (by omega)).mpr h4⟩
theorem Fu_c {ok ok2 : Int → Int → Prop} {n : Int} (e : ∀ i b, 0 ≤ i → (ok i b ↔ ok2 i b)) (ms : List Int) : Fu ok n ms 0 ↔ Fu ok2 n ms 0 := by
  constructor
  · rintro ⟨j, h1, h2, h3⟩
    exact ⟨j, h1, (PW_c e ms 0 j (Int.le_refl 0)).mp h2, (e j (n - 1) (PW_ge ms 0 j h2)).mp h3⟩
  · rintro ⟨j, h1, h2, h3⟩
    exact ⟨j, h1, (PW_c e ms 0 j (Int.le_refl 0)).mpr h2, (e j (n - 1) (PW_ge ms 0 j h2)).mpr h3⟩
section ZK
variable {a b : Nat → Nat} {v : Nat → Int} {g : Nat → Int → Int} {R : Int → Int → Int} {ds : List LwS} {ys : Nat → LwY} {w : Nat → Int} {h : Nat → Int → Int} {z y y1 : Int} {u u2 : EW}
theorem ans_marks (hI : Inv v g ds ys w h) (h1 : QX11_marks a v g R ds ys y1 z u) (h2 : QX12_marks b w h y1 y u2) : z = y := by
  have hpl := hI.pl
  obtain ⟨e1, e2, e3, e4, e5⟩ := hI.es
  obtain ⟨z9, _, _, _, _, _, _, _, _, _, _, _, _, hz, -, -, -, -, -, hm⟩ := h1
  obtain ⟨y9, _, _, _, _, hy, -, hr⟩ := h2
  rw [e1, e2, e3, e5] at hr
  rw [hz, hy]
  rcases hm with ⟨m1, m2⟩ | ⟨m1, m2, c, m, m3, m4⟩ <;> rcases hr with ⟨r1, r2⟩ | ⟨r1, r2, c2, m5, r3, r4⟩
  · rw [m2, r2]
  · exact absurd ⟨r1, r2⟩ m1
  · exact absurd ⟨m1, m2⟩ r1
  · have hs := hI.cz.s m1
    have ht := hI.te
    have r5 := RB_e (fun ms => Fu_c (n := v 21) (fun i b h0 => gdM_c (pl := v 13) (lim := v 0) (D := fun b p => bF (v 22) (c5 (h 20) 3) (c5 (h 20) 4) (h 23) b p + h 24 p) (D2 := fun b p => bF (v 22) (g 39) (g 40) (g 38) b p + g 41 p) (by omega) h0 (fun b p b0 p0 p1 => by
      show bF (v 22) (c5 (h 20) 3) (c5 (h 20) 4) (h 23) b p + h 24 p = bF (v 22) (g 39) (g 40) (g 38) b p + g 41 p
      rw [bF_c hs.2.2.2.2.1 (fun q q0 q1 => ⟨(ht q q0 q1).1, (ht q q0 q1).2.1, (ht q q0 q1).2.2.1⟩) (fun q q0 q1 => (hs.2.2.2.2.2.2 q q0 q1).1) b b0 b b0 (Int.le_refl b) p p0 p1, (ht p p0 p1).2.2.2])) ms) r3
    have k := mk_eq m3 r5
    rcases m4 with ⟨a1, a2⟩ | ⟨a1, a2⟩ <;> rcases r4 with ⟨b1, b2⟩ | ⟨b1, b2⟩
    · rw [a2, b2]
    · exfalso; omega
    · exfalso; omega
    · rcases k with ⟨k1, -⟩ | ⟨-, -, k3, k4⟩
      · exfalso; omega
      · rw [a2, b2, k3, k4]
end ZK
