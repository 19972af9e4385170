/-! ONE CALL ON BOTH SIDES: what holds, holds again -/
theorem t3a_p {To : Int → Int} {r x y z k : Int} : t3a (uZ (uZ (uZ To (r * 3) x) (r * 3 + 1) y) (r * 3 + 2) z) k = uZ (t3a To) r x k := by unfold t3a uZ; (repeat' split) <;> first | rfl | (exfalso; omega)
theorem t3b_p {To : Int → Int} {r x y z k : Int} : t3b (uZ (uZ (uZ To (r * 3) x) (r * 3 + 1) y) (r * 3 + 2) z) k = uZ (t3b To) r y k := by unfold t3b uZ; (repeat' split) <;> first | rfl | (exfalso; omega)
theorem t3c_p {To : Int → Int} {r x y z k : Int} : t3c (uZ (uZ (uZ To (r * 3) x) (r * 3 + 1) y) (r * 3 + 2) z) k = uZ (t3c To) r z k := by unfold t3c uZ; (repeat' split) <;> first | rfl | (exfalso; omega)
theorem paF_e {Kd Dr Kd2 Dr2 B B2 : Int → Int} {mt at9 wet pl p : Int} (e : Kd2 p = Kd p ∧ Dr2 p = Dr p ∧ B2 p = B p) : paF Kd2 Dr2 mt at9 wet pl B2 p = paF Kd Dr mt at9 wet pl B p := by
  unfold paF
  rw [e.1, e.2.1, e.2.2]
section PP
variable {a b : Nat → Nat} {v : Nat → Int} {g : Nat → Int → Int} {R : Int → Int → Int} {ds : List LwS} {ys : Nat → LwY} {w : Nat → Int} {h : Nat → Int → Int} {z y y1 y2 y3 y4 y5 : Int} {u u2 : EW}
theorem pr_feed (hI : Inv v g ds ys w h) (h1 : QX11_feed a v g R ds ys y1 y2 y3 y4 y5 z u) (h2 : QX12_feed b w h y1 y2 y3 y4 y5 y u2) : z = y ∧ PR a b u u2 := by
  obtain ⟨⟨kT, eT, en⟩, hL, hS, hW, hD, hR, hM, hK⟩ := hI
  rcases h1 with ⟨hz, hu, hq⟩ | ⟨n2, T2, hz, hu, hq, hq2, hq3⟩ <;> rcases h2 with ⟨hy, hu2, hp⟩ | ⟨n3, T3, hy, hu2, hp, hp2, hp3⟩
  · exact ⟨by rw [hz, hy], _, _, _, _, _, _, _, hu, hu2, ⟨kT, eT, en⟩, hL, hS, hW, hD, hR, hM, hK⟩
  · exfalso; rw [en] at hp; omega
  · exfalso; rw [en] at hp; omega
  · rw [en] at hp2
    have e : n3 = n2 := by omega
    have e2 : T3 = T2 := by rw [hp3, hq3, eT, en]
    have hl := fbs_len y1 y2 y3 y4 y5
    have ok := okT_wr kT (fbs_ok y1 y2 y3 y4 y5) (by omega)
    rw [← hq3, hl, ← hq2] at ok
    exact ⟨by omega, _, _, _, _, _, _, _, hu, hu2, ⟨ok, e2, e⟩, hL, hS, hW, hD, hR, hM, hK⟩
theorem pr_end (hI : Inv v g ds ys w h) (h1 : QX11_end a v g R ds ys y1 z u) (h2 : QX12_end b w h y1 y u2) : z = y ∧ PR a b u u2 := by
  obtain ⟨⟨kT, eT, en⟩, hL, hS, hW, hD, hR, hM, hK⟩ := hI
  rcases h1 with ⟨hz, hu, hq⟩ | ⟨hz, hu, hq⟩ <;> rcases h2 with ⟨hy, hu2, hp⟩ | ⟨hy, hu2, hp⟩ <;> rw [en] at hp
  · exact ⟨by rw [hz, hy], _, _, _, _, _, _, _, hu, hu2, ⟨kT, eT, en⟩, hL, hS, hW, hD, hR, hM, hK⟩
  · exact absurd hp hq
  · exact absurd hq hp
  · have ok : okT (g 21) y1 := ⟨hq.1, by have := kT.2.1; omega, fun j a0 a1 => kT.2.2 j a0 (by omega)⟩
    exact ⟨by rw [hz, hy], _, _, _, _, _, _, _, hu, hu2, ⟨ok, eT, rfl⟩, hL, hS, hW, hD, hR, hM, hK⟩
theorem pr_set (hI : Inv v g ds ys w h) (h1 : QX11_set a v g R ds ys y1 y2 z u) (h2 : QX12_set b w h y1 y2 y u2) : z = y ∧ PR a b u u2 := by
  obtain ⟨hT, ⟨k1, k2, k3, e1, e2, k4⟩, ⟨s1, s2, s3, s4, s5, s6, s7, s8⟩, hW, hD, hR, hM, ⟨c1, c2, c3⟩⟩ := hI
  have z1 := s1.2.2.2.2.2.2
  have z2 := s1.1
  have z3 := s1.2.1
  have z4 := s1.2.2
  rcases h1 with ⟨hz, hu, hq⟩ | ⟨hz, hu, hq⟩ | ⟨hz, hu, hq⟩ | ⟨hz, hu, hq⟩ | ⟨hz, hu, hq⟩ <;> rcases h2 with ⟨hy, hu2, hp⟩ | ⟨hy, hu2, hp⟩ | ⟨hy, hu2, hp⟩ | ⟨hy, hu2, hp⟩ | ⟨hy, hu2, hp⟩ <;> try (exfalso; (try rw [e1] at hp); omega)
  · exact ⟨by rw [hz, hy], _, _, _, _, _, _, _, hu, hu2, hT, ⟨k1, k2, k3, e1, e2, k4⟩, ⟨s1, s2, s3, s4, s5, s6, s7, s8⟩, hW, hD, hR, hM, ⟨c1, c2, c3⟩⟩
  · exact ⟨by rw [hz, hy], _, _, _, _, _, _, _, hu, hu2, hT, ⟨k1, k2, hq.2, e1, rfl, k4⟩, ⟨s1, s2, s3, s4, s5, s6, s7, s8⟩, hW, hD, hR, hM, ⟨c1, Or.inl rfl, c3⟩⟩
  · exact ⟨by rw [hz, hy], _, _, _, _, _, _, _, hu, hu2, hT, ⟨k1, k2, k3, e1, e2, k4⟩, ⟨⟨z2, z3, hq.2.1, hq.2.2, z4.2.2⟩, s2, s3, rfl, s5, s6, s7, s8⟩, hW, hD, hR, hM, ⟨c1, Or.inl rfl, c3⟩⟩
  · exact ⟨by rw [hz, hy], _, _, _, _, _, _, _, hu, hu2, hT, ⟨k1, k2, k3, e1, e2, k4⟩, ⟨⟨z2, z3, z4.1, z4.2.1, hq.2.1, hq.2.2, z1⟩, s2, s3, s4, rfl, s6, s7, s8⟩, hW, hD, hR, hM, ⟨c1, Or.inl rfl, c3⟩⟩
  · exact ⟨by rw [hz, hy], _, _, _, _, _, _, _, hu, hu2, hT, ⟨k1, k2, k3, e1, e2, k4⟩, ⟨s1, hq.2, s3, s4, s5, s6, rfl, s8⟩, hW, hD, hR, hM, ⟨c1, Or.inl rfl, c3⟩⟩
theorem pr_mark (hI : Inv v g ds ys w h) (h1 : QX11_mark a v g R ds ys y1 y2 z u) (h2 : QX12_mark b w h y1 y2 y u2) : z = y ∧ PR a b u u2 := by
  obtain ⟨hT, hL, ⟨s1, s2, s3, s4, s5, s6, s7, s8⟩, hW, hD, hR, hM, ⟨c1, c2, c3⟩⟩ := hI
  rcases h1 with ⟨hz, hu, hq⟩ | ⟨hz, hu, hq⟩ <;> rcases h2 with ⟨hy, hu2, hp⟩ | ⟨hy, hu2, hp⟩ <;> rw [s3, s6] at hp
  · exact ⟨by rw [hz, hy], _, _, _, _, _, _, _, hu, hu2, hT, hL, ⟨s1, s2, s3, s4, s5, s6, s7, s8⟩, hW, hD, hR, hM, ⟨c1, c2, c3⟩⟩
  · exfalso; omega
  · exfalso; omega
  · exact ⟨by rw [hz, hy], _, _, _, _, _, _, _, hu, hu2, hT, hL, ⟨s1, s2, s3, s4, s5, (by rw [s6] : zXor (w 26) (zShl 1 y1) = zXor (v 23) (zShl 1 y1)), s7, s8⟩, hW, hD, hR, hM, ⟨c1, Or.inl rfl, c3⟩⟩
theorem pr_tell (hI : Inv v g ds ys w h) (h1 : QX11_tell a v g R ds ys y1 y2 y3 z u) (h2 : QX12_tell b w h y1 y2 y3 y u2) : z = y ∧ PR a b u u2 := by
  obtain ⟨hT, hL, ⟨s1, s2, s3, s4, s5, s6, s7, s8⟩, ⟨w1, w2⟩, hD, hR, hM, ⟨c1, c2, c3⟩⟩ := hI
  obtain ⟨z1, z2, z3, z4, z5, z6, z7⟩ := s1
  rcases h1 with ⟨hz, hu, hq⟩ | ⟨hz, hu, hq⟩ | ⟨hz, hu, hq⟩ | ⟨hz, hu, hq⟩ <;> rcases h2 with ⟨hy, hu2, hp⟩ | ⟨hy, hu2, hp⟩ | ⟨hy, hu2, hp⟩ | ⟨hy, hu2, hp⟩ <;> rw [s3] at hp <;> try (exfalso; omega)
  · exact ⟨by rw [hz, hy], _, _, _, _, _, _, _, hu, hu2, hT, hL, ⟨⟨z1, z2, z3, z4, z5, z6, z7⟩, s2, s3, s4, s5, s6, s7, s8⟩, ⟨w1, w2⟩, hD, hR, hM, ⟨c1, c2, c3⟩⟩
  · refine ⟨by rw [hz, hy], _, _, _, _, _, _, _, hu, hu2, hT, hL, ⟨⟨z1, z2, z3, z4, z5, z6, fun p a0 a1 => ?_⟩, s2, s3, s4, s5, s6, s7, fun p a0 a1 => ?_⟩, ⟨w1, fun p a0 a1 => ?_⟩, hD, hR, hM, ⟨c1, Or.inl rfl, c3⟩⟩
    · obtain ⟨x1, x2⟩ := z7 p a0 a1
      refine ⟨?_, x2⟩
      show -1 ≤ uZ (g 39) y1 y3 p ∧ uZ (g 39) y1 y3 p < v 13
      unfold uZ
      split <;> omega
    · obtain ⟨x1, x2, x3, x4⟩ := s8 p a0 a1
      show c5 (uZ (h 20) (5 * y1 + 3) y3) 3 p = uZ (g 39) y1 y3 p ∧ c5 (uZ (h 20) (5 * y1 + 3) y3) 4 p = g 40 p ∧ _ ∧ _
      rw [c5_F, c5_n (by decide) (by decide) (by decide)]
      refine ⟨?_, x2, x3, x4⟩
      unfold uZ
      split
      · rfl
      · exact x1
    · obtain ⟨x1, x2, x3⟩ := w2 p a0 a1
      show c5 (uZ (h 20) (5 * y1 + 3) y3) 0 p = g 32 p ∧ c5 (uZ (h 20) (5 * y1 + 3) y3) 1 p = g 33 p ∧ c5 (uZ (h 20) (5 * y1 + 3) y3) 2 p = g 34 p
      rw [c5_n (by decide) (by decide) (by decide), c5_n (by decide) (by decide) (by decide), c5_n (by decide) (by decide) (by decide)]
      exact ⟨x1, x2, x3⟩
  · refine ⟨by rw [hz, hy], _, _, _, _, _, _, _, hu, hu2, hT, hL, ⟨⟨z1, z2, z3, z4, z5, z6, fun p a0 a1 => ?_⟩, s2, s3, s4, s5, s6, s7, fun p a0 a1 => ?_⟩, ⟨w1, fun p a0 a1 => ?_⟩, hD, hR, hM, ⟨c1, Or.inl rfl, c3⟩⟩
    · obtain ⟨x1, x2, x3⟩ := z7 p a0 a1
      refine ⟨x1, ?_, x3⟩
      show 0 ≤ uZ (g 40) y1 y3 p ∧ uZ (g 40) y1 y3 p ≤ 10
      unfold uZ
      split <;> omega
    · obtain ⟨x1, x2, x3, x4⟩ := s8 p a0 a1
      show c5 (uZ (h 20) (5 * y1 + 4) y3) 3 p = g 39 p ∧ c5 (uZ (h 20) (5 * y1 + 4) y3) 4 p = uZ (g 40) y1 y3 p ∧ _ ∧ _
      rw [c5_H, c5_n (by decide) (by decide) (by decide)]
      refine ⟨x1, ?_, x3, x4⟩
      unfold uZ
      split
      · rfl
      · exact x2
    · obtain ⟨x1, x2, x3⟩ := w2 p a0 a1
      show c5 (uZ (h 20) (5 * y1 + 4) y3) 0 p = g 32 p ∧ c5 (uZ (h 20) (5 * y1 + 4) y3) 1 p = g 33 p ∧ c5 (uZ (h 20) (5 * y1 + 4) y3) 2 p = g 34 p
      rw [c5_n (by decide) (by decide) (by decide), c5_n (by decide) (by decide) (by decide), c5_n (by decide) (by decide) (by decide)]
      exact ⟨x1, x2, x3⟩
  · refine ⟨by rw [hz, hy], _, _, _, _, _, _, _, hu, hu2, hT, hL, ⟨⟨z1, z2, z3, z4, z5, z6, fun p a0 a1 => ?_⟩, s2, s3, s4, s5, s6, s7, fun p a0 a1 => ?_⟩, ⟨w1, w2⟩, hD, hR, hM, ⟨c1, Or.inl rfl, c3⟩⟩
    · obtain ⟨x1, x2, x3, x4⟩ := z7 p a0 a1
      refine ⟨x1, x2, x3, ?_⟩
      show 0 ≤ uZ (g 41) y1 y3 p ∧ uZ (g 41) y1 y3 p ≤ 50
      unfold uZ
      split <;> omega
    · obtain ⟨x1, x2, x3, x4⟩ := s8 p a0 a1
      refine ⟨x1, x2, x3, ?_⟩
      show uZ (h 24) y1 y3 p = uZ (g 41) y1 y3 p
      unfold uZ
      split
      · rfl
      · exact x4
theorem pr_roll (hI : Inv v g ds ys w h) (h1 : QX11_roll a v g R ds ys y1 y2 y3 z u) (h2 : QX12_roll b w h y1 y2 y3 y u2) : z = y ∧ PR a b u u2 := by
  obtain ⟨hT, hL, hS, hW, hD, ⟨r1, r2, r3⟩, hM, hK⟩ := hI
  have s3 := hS.2.2.1
  rcases h1 with ⟨hz, hu, hq⟩ | ⟨hz, hu, hq⟩ <;> rcases h2 with ⟨hy, hu2, hp⟩ | ⟨hy, hu2, hp⟩ <;> rw [s3, r2] at hp
  · exact ⟨by rw [hz, hy], _, _, _, _, _, _, _, hu, hu2, hT, hL, hS, hW, hD, ⟨r1, r2, r3⟩, hM, hK⟩
  · exact absurd hp hq
  · exact absurd hq hp
  · refine ⟨by rw [hz, hy, r2], _, _, _, _, _, _, _, hu, hu2, hT, hL, hS, hW, hD, ⟨⟨?_, ?_⟩, ?_, fun k a0 a1 => ?_⟩, hM, hK⟩
    · show 0 ≤ v 3 + 1; omega
    · show v 3 + 1 ≤ 20; omega
    · show w 46 + 1 = v 3 + 1; rw [r2]
    · show ((0 ≤ t3a (uZ (uZ (uZ (g 2) (v 3 * 3) y1) (v 3 * 3 + 1) y2) (v 3 * 3 + 2) y3) k ∧ t3a (uZ (uZ (uZ (g 2) (v 3 * 3) y1) (v 3 * 3 + 1) y2) (v 3 * 3 + 2) y3) k < v 13) ∧ (0 ≤ t3b (uZ (uZ (uZ (g 2) (v 3 * 3) y1) (v 3 * 3 + 1) y2) (v 3 * 3 + 2) y3) k ∧ t3b (uZ (uZ (uZ (g 2) (v 3 * 3) y1) (v 3 * 3 + 1) y2) (v 3 * 3 + 2) y3) k ≤ 29) ∧ (0 ≤ t3c (uZ (uZ (uZ (g 2) (v 3 * 3) y1) (v 3 * 3 + 1) y2) (v 3 * 3 + 2) y3) k ∧ t3c (uZ (uZ (uZ (g 2) (v 3 * 3) y1) (v 3 * 3 + 1) y2) (v 3 * 3 + 2) y3) k ≤ 9999)) ∧ uZ (h 43) (w 46) y1 k = t3a (uZ (uZ (uZ (g 2) (v 3 * 3) y1) (v 3 * 3 + 1) y2) (v 3 * 3 + 2) y3) k ∧ uZ (h 44) (w 46) y2 k = t3b (uZ (uZ (uZ (g 2) (v 3 * 3) y1) (v 3 * 3 + 1) y2) (v 3 * 3 + 2) y3) k ∧ uZ (h 45) (w 46) y3 k = t3c (uZ (uZ (uZ (g 2) (v 3 * 3) y1) (v 3 * 3 + 1) y2) (v 3 * 3 + 2) y3) k
      have a2 : k < v 3 + 1 := a1
      rw [t3a_p, t3b_p, t3c_p, r2]
      unfold uZ
      by_cases hk : k = v 3
      · rw [if_pos hk, if_pos hk, if_pos hk, if_pos hk, if_pos hk, if_pos hk]
        exact ⟨⟨hq.1, hq.2.1, hq.2.2.1⟩, rfl, rfl, rfl⟩
      · rw [if_neg hk, if_neg hk, if_neg hk, if_neg hk, if_neg hk, if_neg hk]
        exact r3 k a0 (by omega)
theorem pr_image (hI : Inv v g ds ys w h) (h1 : QX11_image a v g R ds ys z u) (h2 : QX12_image b w h y u2) : z = y ∧ PR a b u u2 := by
  obtain ⟨hT, hL, hS, hW, ⟨d1, d2, d3, d4, d5, d6, d7, d8, d9, d10⟩, hR, hM, hK⟩ := hI
  have s3 := hS.2.2.1
  have s8 := hS.2.2.2.2.2.2.2
  have sB := okZ_b hS.1
  rcases h1 with ⟨hz, hu, hq⟩ | ⟨hz, hu, hq⟩ <;> rcases h2 with ⟨hy, hu2, hp⟩ | ⟨I2, hy, hu2, hp, hp2⟩ <;> rw [s3] at hp
  · exact ⟨by rw [hz, hy], _, _, _, _, _, _, _, hu, hu2, hT, hL, hS, hW, ⟨d1, d2, d3, d4, d5, d6, d7, d8, d9, d10⟩, hR, hM, hK⟩
  · exfalso; omega
  · exfalso; omega
  · refine ⟨by rw [hz, hy, d6], _, _, _, _, _, _, _, hu, hu2, hT, hL, hS, hW, ⟨d1, d2, d3, d4, Or.inr rfl, d6, d7, rfl, d9, fun _ => ⟨d6, ?_, ?_, fun p a0 a1 => ?_⟩⟩, hR, hM, hK⟩
    · show 0 ≤ v 15; omega
    · show v 15 ≤ 1000; omega
    · have hp6 : p < 6 := by have := hS.1.2.1; exact Int.lt_of_lt_of_le a1 this
      show I2 p = cpZ (g 38) (g 0) 0 0 6 p ∧ 1 ≤ cpZ (g 38) (g 0) 0 0 6 p ∧ cpZ (g 38) (g 0) 0 0 6 p ≤ 199
      rw [cpZ_in ⟨a0, hp6⟩, hp2 p a0 hp6, (s8 p a0 a1).2.2.1]
      exact ⟨rfl, sB p a0 a1⟩
theorem pr_back (hI : Inv v g ds ys w h) (h1 : QX11_back a v g R ds ys z u) (h2 : QX12_back b w h y u2) : z = y ∧ PR a b u u2 := by
  obtain ⟨hT, hL, ⟨s1, s2, s3, s4, s5, s6, s7, s8⟩, hW, ⟨d1, d2, d3, d4, d5, d6, d7, d8, d9, d10⟩, hR, hM, ⟨c1, c2, c3⟩⟩ := hI
  rcases h1 with ⟨hz, hu, hq⟩ | ⟨hz, hu, hq⟩ <;> rcases h2 with ⟨hy, hu2, hp⟩ | ⟨B2, hy, hu2, hp, hp2⟩ <;> rw [d8] at hp
  · exact ⟨by rw [hz, hy], _, _, _, _, _, _, _, hu, hu2, hT, hL, ⟨s1, s2, s3, s4, s5, s6, s7, s8⟩, hW, ⟨d1, d2, d3, d4, d5, d6, d7, d8, d9, d10⟩, hR, hM, ⟨c1, c2, c3⟩⟩
  · exfalso; omega
  · exfalso; omega
  · obtain ⟨i1, i2, i3, i4⟩ := d10 hq
    have hp6 : ∀ p, p < v 13 → p < 6 := fun p a1 => Int.lt_of_lt_of_le a1 s1.2.1
    have eB : ∀ p, 0 ≤ p → p < v 13 → cpZ (g 0) (g 38) 0 0 6 p = g 0 p := fun p a0 a1 => cpZ_in ⟨a0, hp6 p a1⟩
    refine ⟨by rw [hz, hy, i1], _, _, _, _, _, _, _, hu, hu2, hT, hL, ⟨okZ_B s1 (fun p a0 a1 => ?_), s2, s3, s4, s5, s6, s7, fun p a0 a1 => ?_⟩, hW, ⟨d1, ?_, ?_, i3, d5, i1, rfl, d8, fun k a0 a1 => ?_, d10⟩, hR, hM, ⟨c1, Or.inl rfl, c3⟩⟩
    · show 1 ≤ cpZ (g 0) (g 38) 0 0 6 p ∧ cpZ (g 0) (g 38) 0 0 6 p ≤ 199
      rw [eB p a0 a1]
      exact (i4 p a0 a1).2
    · obtain ⟨x1, x2, x3, x4⟩ := s8 p a0 a1
      refine ⟨x1, x2, ?_, x4⟩
      show B2 p = cpZ (g 0) (g 38) 0 0 6 p
      rw [eB p a0 a1, hp2 p a0 (hp6 p a1)]
      exact (i4 p a0 a1).1
    · show (0 : Int) ≤ 0 ∧ (0 : Int) ≤ 60; omega
    · show 0 ≤ v 18; exact i2
    · exfalso
      have a2 : k < 0 := a1
      omega
theorem pr_undo (hI : Inv v g ds ys w h) (h1 : QX11_undo a v g R ds ys z u) (h2 : QX12_undo b w h y u2) : z = y ∧ PR a b u u2 := by
  obtain ⟨hT, hL, ⟨s1, s2, s3, s4, s5, s6, s7, s8⟩, hW, ⟨d1, d2, d3, d4, d5, d6, d7, d8, d9, d10⟩, hR, hM, ⟨c1, c2, c3⟩⟩ := hI
  rcases h1 with ⟨hz, hu, hq⟩ | ⟨hz, hu, hq⟩ <;> rcases h2 with ⟨hy, hu2, hp⟩ | ⟨B2, hy, hu2, hp, hp2⟩ <;> rw [d7] at hp
  · exact ⟨by rw [hz, hy], _, _, _, _, _, _, _, hu, hu2, hT, hL, ⟨s1, s2, s3, s4, s5, s6, s7, s8⟩, hW, ⟨d1, d2, d3, d4, d5, d6, d7, d8, d9, d10⟩, hR, hM, ⟨c1, c2, c3⟩⟩
  · exfalso; omega
  · exfalso; omega
  · have em : (v 19 + 60 - 1).tmod 60 = (v 19 + 60 - 1) % 60 := Int.tmod_eq_emod_of_nonneg (by omega)
    have em2 : (v 19 + 60 - 1) % 60 = (v 19 - 1 - 0) % 60 := by omega
    have hp6 : ∀ p, p < v 13 → p < 6 := fun p a1 => Int.lt_of_lt_of_le a1 s1.2.1
    have eB : ∀ p, 0 ≤ p → p < v 13 → cpZ (g 1) (g 38) ((v 19 + 60 - 1).tmod 60 * 6) 0 6 p = g 1 ((v 19 - 1 - 0) % 60 * 6 + p) := fun p a0 a1 => by
      rw [cpZ_at ⟨a0, by have := hp6 p a1; omega⟩, em, em2]
      congr 1
      omega
    refine ⟨by rw [hz, hy, d6], _, _, _, _, _, _, _, hu, hu2, hT, hL, ⟨okZ_B s1 (fun p a0 a1 => ?_), s2, s3, s4, s5, s6, s7, fun p a0 a1 => ?_⟩, hW, ⟨?_, ?_, ?_, ?_, d5, ?_, ?_, d8, fun k a0 a1 p b0 b1 => ?_, d10⟩, hR, hM, ⟨c1, Or.inl rfl, c3⟩⟩
    · show 1 ≤ cpZ (g 1) (g 38) ((v 19 + 60 - 1).tmod 60 * 6) 0 6 p ∧ cpZ (g 1) (g 38) ((v 19 + 60 - 1).tmod 60 * 6) 0 6 p ≤ 199
      rw [eB p a0 a1]
      exact (d9 0 (by omega) (by omega) p a0 a1).2
    · obtain ⟨x1, x2, x3, x4⟩ := s8 p a0 a1
      refine ⟨x1, x2, ?_, x4⟩
      show B2 p = cpZ (g 1) (g 38) ((v 19 + 60 - 1).tmod 60 * 6) 0 6 p
      rw [eB p a0 a1, hp2 p a0 (hp6 p a1), d7, ← (d9 0 (by omega) (by omega) p a0 a1).1]
      congr 1
      omega
    · show 0 ≤ (v 19 + 60 - 1).tmod 60 ∧ (v 19 + 60 - 1).tmod 60 ≤ 59
      rw [em]
      omega
    · show 0 ≤ v 16 - 1 ∧ v 16 - 1 ≤ 60; omega
    · show v 16 - 1 ≤ v 15 - 1; omega
    · show v 15 - 1 ≤ 1000; omega
    · show w 25 - 1 = v 15 - 1; rw [d6]
    · show w 32 - 1 = v 16 - 1; rw [d7]
    · have a2 : k < v 16 - 1 := a1
      show h 31 (6 * (v 16 - 1 - 1 - k) + p) = g 1 (((v 19 + 60 - 1).tmod 60 - 1 - k) % 60 * 6 + p) ∧ 1 ≤ g 1 (((v 19 + 60 - 1).tmod 60 - 1 - k) % 60 * 6 + p) ∧ g 1 (((v 19 + 60 - 1).tmod 60 - 1 - k) % 60 * 6 + p) ≤ 199
      rw [em, show ((v 19 + 60 - 1) % 60 - 1 - k) % 60 = (v 19 - 1 - (k + 1)) % 60 by omega, show v 16 - 1 - 1 - k = v 16 - 1 - (k + 1) by omega]
      exact d9 (k + 1) (by omega) (by omega) p b0 b1
theorem pr_day (hI : Inv v g ds ys w h) (h1 : QX11_day a v g R ds ys y1 z u) (h2 : QX12_day b w h ds y1 y u2) : z = y ∧ PR a b u u2 := by
  have hpl := hI.pl
  obtain ⟨hT, ⟨k1, k2, k3, e1, e2, k4⟩, ⟨s1, s2, s3, s4, s5, s6, s7, s8⟩, ⟨w1, w2⟩, ⟨d1, d2, d3, d4, d5, d6, d7, d8, d9, d10⟩, hR, hM, ⟨c1, c2, c3⟩⟩ := hI
  rcases h1 with ⟨hz, hu, hq⟩ | ⟨yy, hz, hu, hy2, hq⟩ <;> rcases h2 with ⟨hy, hu2, hp⟩ | ⟨B2, K2, ac2, L2, S2, hy, hu2, hp, hB2, hac2, hK1, hK2⟩ <;> rw [s3, d6] at hp
  · exact ⟨by rw [hz, hy], _, _, _, _, _, _, _, hu, hu2, hT, ⟨k1, k2, k3, e1, e2, k4⟩, ⟨s1, s2, s3, s4, s5, s6, s7, s8⟩, ⟨w1, w2⟩, ⟨d1, d2, d3, d4, d5, d6, d7, d8, d9, d10⟩, hR, hM, ⟨c1, c2, c3⟩⟩
  · exfalso; omega
  · exfalso; omega
  · obtain ⟨o1, o2⟩ := w1 (by omega)
    have em : (v 19 + 1).tmod 60 = (v 19 + 1) % 60 := Int.tmod_eq_emod_of_nonneg (by omega)
    have hp6 : ∀ p, p < v 13 → p < 6 := fun p a1 => Int.lt_of_lt_of_le a1 s1.2.1
    rw [d7] at hac2 hK2
    have hac : ac2 = min (v 16 + 1) 60 := by omega
    have eP : ∀ p, 0 ≤ p → p < v 13 → B2 p = paF (g 34) (g 33) (v 14) y1 (aDy (v 2) (csA ds (v 2)) (v 14) (v 13) (v 15)) (v 13) (g 38) p := fun p a0 a1 => by
      rw [hB2, s3, o2, e2, d6]
      exact paF_e ⟨(w2 p a0 a1).2.2, (w2 p a0 a1).2.1, (s8 p a0 a1).2.2.1⟩
    have sB := okZ_b s1
    refine ⟨by rw [hz, hy, d6], _, _, _, _, _, _, _, hu, hu2, hT, ⟨k1, hy2, k3, e1, e2, k4⟩, ⟨okZ_B s1 (fun p a0 a1 => paF_in ⟨o1.1, o1.2.1⟩ a0 a1), s2, s3, s4, s5, s6, s7, fun p a0 a1 => ?_⟩, ⟨w1, w2⟩, ⟨?_, ?_, ?_, ?_, d5, ?_, ?_, d8, fun k a0 a1 p b0 b1 => ?_, d10⟩, hR, hM, ⟨c1, Or.inl rfl, c3⟩⟩
    · obtain ⟨x1, x2, x3, x4⟩ := s8 p a0 a1
      exact ⟨x1, x2, eP p a0 a1, x4⟩
    · show 0 ≤ (v 19 + 1).tmod 60 ∧ (v 19 + 1).tmod 60 ≤ 59
      rw [em]
      omega
    · show 0 ≤ min (v 16 + 1) 60 ∧ min (v 16 + 1) 60 ≤ 60; omega
    · show min (v 16 + 1) 60 ≤ v 15 + 1; omega
    · show v 15 + 1 ≤ 1000; omega
    · show w 25 + 1 = v 15 + 1; rw [d6]
    · exact hac
    · have a2 : k < min (v 16 + 1) 60 := a1
      have hb := hp6 p b1
      show K2 (6 * (min (v 16 + 1) 60 - 1 - k) + p) = cpZ (g 38) (g 1) 0 (v 19 * 6) 6 (((v 19 + 1).tmod 60 - 1 - k) % 60 * 6 + p) ∧ 1 ≤ cpZ (g 38) (g 1) 0 (v 19 * 6) 6 (((v 19 + 1).tmod 60 - 1 - k) % 60 * 6 + p) ∧ cpZ (g 38) (g 1) 0 (v 19 * 6) 6 (((v 19 + 1).tmod 60 - 1 - k) % 60 * 6 + p) ≤ 199
      rw [em, show ((v 19 + 1) % 60 - 1 - k) % 60 = (v 19 - k) % 60 by omega]
      by_cases hk : k = 0
      · subst hk
        rw [show (v 19 - 0) % 60 = v 19 by omega, cpZ_at ⟨by omega, by omega⟩, show 0 + (v 19 * 6 + p - v 19 * 6) = p by omega, show min (v 16 + 1) 60 - 1 - 0 = ac2 - 1 by omega, hK1 p b0 hb]
        exact ⟨(s8 p b0 b1).2.2.1, sB p b0 b1⟩
      · have hne : (v 19 - k) % 60 ≠ v 19 := by omega
        have hr : 0 ≤ (v 19 - k) % 60 ∧ (v 19 - k) % 60 < 60 := by omega
        rw [cpZ_out (by omega), hK2 _ (by omega) (by omega)]
        have e9 := d9 (k - 1) (by omega) (by omega) p b0 b1
        rw [show (v 19 - 1 - (k - 1)) % 60 = (v 19 - k) % 60 by omega] at e9
        rw [show 6 * (min (v 16 + 1) 60 - 1 - k) + p + 6 * (v 16 + 1 - ac2) = 6 * (v 16 - 1 - (k - 1)) + p by omega]
        exact e9
theorem pr_damp (hI : Inv v g ds ys w h) (h1 : QX11_damp a v g R ds ys y1 z u) (h2 : (w 21 = 0 ∧ y = -1 ∧ u2 = RW b w h) ∨ (1 ≤ w 21 ∧ QX12_damp b w h ds y1 y u2)) : z = y ∧ PR a b u u2 := by
  obtain ⟨hT, ⟨k1, k2, k3, e1, e2, k4⟩, hS, hW, hD, hR, hM, hK⟩ := hI
  have s3 := hS.2.2.1
  obtain ⟨yy, hz, hu, hy2⟩ := h1
  rcases h2 with ⟨hp, hy, hu2⟩ | ⟨hp, L2, S2, hy, hu2⟩ <;> rw [s3] at hp
  · refine ⟨?_, _, _, _, _, _, _, _, hu, hu2, hT, ⟨k1, hy2, k3, e1, e2, k4⟩, hS, hW, hD, hR, hM, hK⟩
    rw [hz, hy]
    unfold aDamp
    rw [if_neg (by omega)]
  · refine ⟨?_, _, _, _, _, _, _, _, hu, hu2, hT, ⟨k1, hy2, k3, e1, e2, k4⟩, hS, hW, hD, hR, hM, hK⟩
    rw [hz, hy, s3, e2, (hW.1 hp).2]
theorem tn_e {T T2 : Int → Int} {n n2 : Int} {R : Int → Int → Int} {x y : Int ⊕ TS} (eT : T2 = T) (en : n2 = n) (h1 : tnRes T n R = x) (h2 : tnRes T2 n2 R = y) : x = y := by
  rw [← h1, ← h2, eT, en]
theorem pr_fault (hI : Inv v g ds ys w h) (h1 : QX11_fault a v g R ds ys y1 z u) (h2 : QX12_fault b w h R y1 y u2) : z = y ∧ PR a b u u2 := by
  obtain ⟨⟨kT, eT, en⟩, ⟨k1, k2, k3, e1, e2, k4⟩, hS, hW, hD, hR, hM, hK⟩ := hI
  have lr := lw_rel (T := g 21) (n := v 4) kT.2.1 kT.1
  rcases h1 with ⟨fl, a2, x2, p2, m2, R2, hz, hu, hv, hr, hfl⟩ | ⟨a2, x2, p2, m2, R2, hz, hu, hv, hr, hk⟩ | ⟨fl, a2, x2, C2, hz, hu, hv, hr, hfl⟩ | ⟨a2, ts, hz, hu, hv, hr, hl, ht2⟩ | ⟨hz, hu, hv⟩ <;>
    rcases h2 with ⟨a3, f3, p3, m3, R3, hy, hu2, hp, hpr, hpf⟩ | ⟨a3, p3, m3, x3, R3, Rc, hy, hu2, hp, hpr, hpf, hpk⟩ | ⟨a3, f3, q3, dp3, j3, w3, C3, V3, Tf3, Sf3, Ef3, hy, hu2, hp, hpr, hpf, fC, fV, fT, fS, fE⟩ | ⟨a3, cs, hy, hu2, hp, hpr, hpl⟩ | ⟨hy, hu2, hp⟩ <;> try (exfalso; omega)
  · have e := Sum.inl.inj (tn_e eT en hr hpr)
    exact ⟨by rw [hz, hy, e], _, _, _, _, _, _, _, hu, hu2, ⟨kT, eT, en⟩, ⟨k1, k2, k3, e1, e2, k4⟩, hS, hW, hD, hR, hM, hK⟩
  · exact nomatch (tn_e eT en hr hpr)
  · exact nomatch (tn_e eT en hr hpr)
  · exact ⟨by rw [hz, hy], _, _, _, _, _, _, _, hu, hu2, ⟨kT, eT, en⟩, ⟨k1, k2, k3, e1, e2, k4⟩, hS, hW, hD, hR, hM, hK⟩
  · rw [eT, en] at hpr
    rw [hr, hpr] at lr
    have e := Sum.inl.inj lr
    refine ⟨by rw [hz, hy, e], _, _, _, _, _, _, _, hu, hu2, ⟨kT, eT, en⟩, ⟨k1, k2, k3, e1, e2, fun i a0 a1 => ?_⟩, hS, hW, hD, hR, hM, hK⟩
    have a9 : i < v 1 := a1
    exact lawAt_e (tx := 4) (k4 i a0 a1) a0 (by omega) fC fV fT fS fE (uZ_ne (by omega))
  · rw [eT, en] at hpr
    rw [hr, hpr] at lr
    exact nomatch lr
  · rw [eT, en] at hpr
    rw [hr, hpr] at lr
    exact nomatch lr
  · refine ⟨by rw [hz, hy], _, _, _, _, _, _, _, hu, hu2, ⟨kT, eT, en⟩, ⟨k1, k2, k3, e1, e2, fun i a0 a1 => ?_⟩, hS, hW, hD, hR, hM, hK⟩
    have a9 : i < v 1 := a1
    exact lawAt_e (tx := 4) (k4 i a0 a1) a0 (by omega) (frm_r (by omega) (by omega)) (frm_r (by omega) (by omega)) (frp_rT (by omega)) (frp_rS (by omega)) (frp_rE (by omega)) (uZ_ne (by omega))
  · exact ⟨by rw [hz, hy], _, _, _, _, _, _, _, hu, hu2, ⟨kT, eT, en⟩, ⟨k1, k2, k3, e1, e2, k4⟩, hS, hW, hD, hR, hM, hK⟩
theorem pr_text (hI : Inv v g ds ys w h) (h1 : QX11_text a v g R ds ys y1 z u) (h2 : QX12_text b w h R y1 y u2) : z = y ∧ PR a b u u2 := by
  obtain ⟨⟨kT, eT, en⟩, ⟨k1, k2, k3, e1, e2, k4⟩, ⟨s1, s2, s3, s4, s5, s6, s7, s8⟩, ⟨w1, w2⟩, hD, hR, hM, ⟨c1, c2, c3⟩⟩ := hI
  have lr := lw_rel (T := g 21) (n := v 4) kT.2.1 kT.1
  have ok0 : okT (g 21) 0 := ⟨by omega, by omega, fun j a0 a1 => by omega⟩
  rcases h1 with ⟨hz, hu, hv⟩ | ⟨fl, a2, x2, p2, m2, R2, hz, hu, hv, hr⟩ | ⟨a2, x2, p2, m2, R2, B2, D2, K2, F2, H2, B3, F3, H3, L3, yy, hz, hu, hv, hr, hk, hB2, hD2, hK2, hF2, hH2, hB3, hF3, hH3, hL3, hy2⟩ | ⟨hz, hu, hv, hl⟩ | ⟨fl, a2, x2, C2, hz, hu, hv, hl, hr⟩ | ⟨a2, x2, C2, cs, x9, v9, hz, hu, hv, hl, hr, hcs, hok, hkn⟩ <;>
    rcases h2 with ⟨a3, f3, p3, m3, R3, hy, hu2, hp, hpr, hpf⟩ | ⟨a3, p3, m3, x3, R3, Rc, Q4, B4, E4, hy, hu2, hp, hpr, hpf, hpk, hQ4, hB4, hE4⟩ | ⟨a3, f3, q3, dp3, j3, w3, t3, C3, V3, Tf3, Sf3, Ef3, hy, hu2, hp, hpr, hpf, fC, fV, fT, fS, fE⟩ | ⟨a3, cs3, hy, hu2, hp, hpr, hpl⟩ | ⟨hy, hu2, hp⟩ <;> try (exfalso; omega)
  · exact ⟨by rw [hz, hy], _, _, _, _, _, _, _, hu, hu2, ⟨kT, eT, en⟩, ⟨k1, k2, k3, e1, e2, k4⟩, ⟨s1, s2, s3, s4, s5, s6, s7, s8⟩, ⟨w1, w2⟩, hD, hR, hM, ⟨c1, c2, c3⟩⟩
  · exact ⟨by rw [hz, hy], _, _, _, _, _, _, _, hu, hu2, ⟨kT, eT, en⟩, ⟨k1, k2, k3, e1, e2, k4⟩, ⟨s1, s2, s3, s4, s5, s6, s7, s8⟩, ⟨w1, w2⟩, hD, hR, hM, ⟨c1, c2, c3⟩⟩
  · exact nomatch (tn_e eT en hr hpr)
  · exact nomatch (tn_e eT en hr hpr)
  · have e := Sum.inr.inj (tn_e eT en hr hpr)
    simp only [Prod.mk.injEq] at e
    obtain ⟨ep, em, ex, eR⟩ := e
    subst ep
    subst em
    subst ex
    subst eR
    have z := op_z (n := v 21) (ec := v 22) hr hk ⟨s1.2.2.1, s1.2.2.2.1⟩ ⟨s1.2.2.2.2.1, s1.2.2.2.2.2.1⟩ hB3 hF3 hH3 hL3
    have hp6 : ∀ p, p < p2 → p < 6 := fun p a1 => Int.lt_of_lt_of_le a1 z.2.1
    have eQ : ∀ p j, 0 ≤ p → p < p2 → 0 ≤ j → j ≤ 4 → c5 Q4 j p = colR R2 j p := fun p j a0 a1 b0 b1 => by
      have h6 := hp6 p a1
      show Q4 (5 * p + j) = R2 p j
      rw [hQ4 _ (by omega) (by omega), hpf p j a0 a1 b0 b1]
    refine ⟨by rw [hz, hy], _, _, _, _, _, _, _, hu, hu2, ⟨ok0, eT, rfl⟩, ⟨k1, hy2, k3, e1, e2, k4⟩, ⟨z, s2, rfl, s4, s5, rfl, s7, fun p a0 a1 => ?_⟩, ⟨fun _ => ⟨op_dy hk hK2 hD2, rfl⟩, fun p a0 a1 => ?_⟩, ⟨(by decide : (0 : Int) ≤ 0 ∧ (0 : Int) ≤ 59), (by decide : (0 : Int) ≤ 0 ∧ (0 : Int) ≤ 60), Int.le_refl 0, (by decide : (0 : Int) ≤ 1000), Or.inl rfl, rfl, rfl, rfl, fun k b0 b1 => ?_, fun b0 => ?_⟩, ⟨(by decide : (0 : Int) ≤ 0 ∧ (0 : Int) ≤ 20), rfl, fun k b0 b1 => ?_⟩, hM, ⟨c1, Or.inl rfl, c3⟩⟩
    · have h6 := hp6 p a1
      show c5 Q4 3 p = F3 p ∧ c5 Q4 4 p = H3 p ∧ B4 p = B3 p ∧ E4 p = L3 p
      rw [eQ p 3 a0 a1 (by decide) (by decide), eQ p 4 a0 a1 (by decide) (by decide), hF3 p a0 h6, hH3 p a0 h6, hB3 p a0 h6, hL3 p a0 h6, hB4 p a0 h6, hE4 p a0 h6]
      refine ⟨rfl, rfl, ?_, rfl⟩
      have e9 := hpf p 0 a0 a1 (by decide) (by decide)
      rw [show 5 * p + 0 = 5 * p by omega] at e9
      exact e9
    · have h6 := hp6 p a1
      show c5 Q4 0 p = B2 p ∧ c5 Q4 1 p = D2 p ∧ c5 Q4 2 p = K2 p
      rw [eQ p 0 a0 a1 (by decide) (by decide), eQ p 1 a0 a1 (by decide) (by decide), eQ p 2 a0 a1 (by decide) (by decide), hB2 p a0 h6, hD2 p a0 h6, hK2 p a0 h6]
      exact ⟨rfl, rfl, rfl⟩
    · exfalso
      have b2 : k < 0 := b1
      omega
    · exact absurd (show (0 : Int) = 1 from b0) (by decide)
    · exfalso
      have b2 : k < 0 := b1
      omega
  · exact ⟨by rw [hz, hy], _, _, _, _, _, _, _, hu, hu2, ⟨kT, eT, en⟩, ⟨k1, k2, k3, e1, e2, k4⟩, ⟨s1, s2, s3, s4, s5, s6, s7, s8⟩, ⟨w1, w2⟩, hD, hR, hM, ⟨c1, c2, c3⟩⟩
  · refine ⟨by rw [hz, hy], _, _, _, _, _, _, _, hu, hu2, ⟨kT, eT, en⟩, ⟨k1, k2, k3, e1, e2, fun i a0 a1 => ?_⟩, ⟨s1, s2, s3, s4, s5, s6, s7, s8⟩, ⟨w1, w2⟩, hD, hR, hM, ⟨c1, c2, c3⟩⟩
    have a9 : i < v 1 := a1
    exact lawAt_e (tx := w 13) (k4 i a0 a1) a0 (by omega) fC fV fT fS fE (uZ_ne (by omega))
  · rw [eT, en] at hpr
    rw [hr, hpr] at lr
    exact nomatch lr
  · rw [eT, en] at hpr
    rw [hr] at hpr
    exact nomatch hpr
  · rw [eT, en] at hpr
    rw [hr] at hpr
    have ec : cs = cs3 := Sum.inr.inj hpr
    subst ec
    have key := lawAt_new (C := h 6) (V := h 7) (Lk := h 9) (Tf := h 10) (Sf := h 11) (Ef := h 12) (i := w 13) (by omega) kT.2.1 kT.1 hr hpl
    have hlen : ds.length = (v 1).toNat := by omega
    refine ⟨by rw [hz, hy, e1], _, _, _, _, _, _, _, hu, hu2, ⟨ok0, eT, rfl⟩, ⟨⟨?_, ?_, ?_⟩, okW.snoc k2 hok hkn, ⟨k3.1, ?_⟩, ?_, e2, fun i a0 a1 => ?_⟩, ⟨s1, s2, s3, s4, s5, s6, s7, s8⟩, ⟨w1, w2⟩, hD, hR, hM, ⟨c1, c2, c3⟩⟩
    · show (((ds ++ [x9]).length : Nat) : Int) = v 1 + 1
      rw [List.length_append, List.length_singleton]
      omega
    · show 0 ≤ v 1 + 1; omega
    · show v 1 + 1 ≤ 4; omega
    · show v 2 < v 1 + 1; omega
    · show w 13 + 1 = v 1 + 1; rw [e1]
    · have a9 : i < v 1 + 1 := a1
      by_cases hi : i = w 13
      · subst hi
        have e9 : csA (ds ++ [x9]) (w 13) = cs := by
          rw [csA_at (i := ds.length) (x := x9) (by rw [List.getElem?_append_right (Nat.le_refl _), Nat.sub_self]; rfl) (by omega), hcs]
        rw [e9]
        exact key
      · rw [csA_snoc a0 (by omega)]
        exact lawAt_e (tx := w 13) (k4 i a0 (by omega)) a0 hi (frm_r (by omega) (by omega)) (frm_r (by omega) (by omega)) (frp_rT (by omega)) (frp_rS (by omega)) (frp_rE (by omega)) (uZ_ne hi)
end PP
