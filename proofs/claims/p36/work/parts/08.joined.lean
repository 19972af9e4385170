/- 21.ref2.lean.txt -/
section pt_21ref2
/-- nothing outside text tx has changed -/
def frm (tx : Int) (C C2 : Int → Int) : Prop := ∀ i, ¬ (340 * tx ≤ i ∧ i < 340 * tx + 340) → C2 i = C i
theorem frm_0 {tx : Int} {C : Int → Int} : frm tx C C := fun _ _ => rfl
theorem frm_p {tx k c : Int} {C C2 : Int → Int} (h : frm tx C C2) (hk : 0 ≤ k ∧ k < 340) : frm tx C (uZ C2 (340 * tx + k) c) := fun i hi => (uZ_ne (by omega)).trans (h i hi)
theorem frm_r {tx k : Int} {C : Int → Int} {g : Int → Int} {l : List Int} (h0 : 0 ≤ k) (hk : k + (l.length : Int) ≤ 340) : frm tx C (wrL C (340 * tx + k) (List.map g l)) := fun i hi => by
  rcases Int.lt_or_le i (340 * tx + k) with q | q
  · exact wrL_lo q
  · exact wrL_hi (by rw [List.length_map]; omega)
theorem frm_w {tx k : Int} {C C2 : Int → Int} {g : Int → Int} {l : List Int} (h : frm tx (wrL C (340 * tx + k) (List.map g l)) C2) (h0 : 0 ≤ k) (hk : k + (l.length : Int) ≤ 340) : frm tx C C2 := fun i hi => (h i hi).trans (frm_r h0 hk i hi)
theorem rW_app {g : Int → Int} {C : Int → Int} {x k : Int} {a b : List Int} : wrL (wrL C (x + k) (List.map g a)) (x + (k + (a.length : Int))) (List.map g b) = wrL C (x + k) (List.map g (a ++ b)) := by
  rw [List.map_append, wrL_app, List.length_map, Int.add_assoc]
theorem rW_put {g : Int → Int} {C : Int → Int} {x k c0 : Int} {a : List Int} (t : Int) (h : g t = c0) : uZ (wrL C (x + k) (List.map g a)) (x + (k + (a.length : Int))) c0 = wrL C (x + k) (List.map g (a ++ [t])) := by
  rw [List.map_append, wrL_app, List.length_map, Int.add_assoc, ← h]; rfl
theorem rW_one {g : Int → Int} {C : Int → Int} {x c0 : Int} (t : Int) (h : g t = c0) : uZ C x c0 = wrL C x (List.map g [t]) := by rw [← h]; rfl
theorem rK_app {k : Int} {a b : List Int} : k + (a.length : Int) + (b.length : Int) = k + ((a ++ b).length : Int) := by rw [List.length_append]; omega
theorem rK_put {k : Int} {a : List Int} (t : Int) : k + (a.length : Int) + 1 = k + ((a ++ [t]).length : Int) := by rw [List.length_append]; show _ = k + ((a.length + 1 : Nat) : Int); omega
theorem rK_one {k : Int} (t : Int) : k + 1 = k + (([t] : List Int).length : Int) := rfl
theorem k_num {v : Int} (h : 0 ≤ v) : kC v = 0 ∧ kV v = v := ⟨by unfold kC; rw [if_pos h], by unfold kV; rw [if_pos h]⟩
theorem k_let {c : Int} (h : c = 100 ∨ c = 119 ∨ c = 109 ∨ c = 110 ∨ c = 111) : kC (-c) = 1 ∧ kV (-c) = letOf c := by
  rcases h with h | h | h | h | h <;> (subst h; exact ⟨rfl, rfl⟩)
theorem letOf_m {c : Int} : (letOf c = -1 ∧ ¬ (c = 100 ∨ c = 119 ∨ c = 109 ∨ c = 110 ∨ c = 111)) ∨ (0 ≤ letOf c ∧ letOf c ≤ 4 ∧ (c = 100 ∨ c = 119 ∨ c = 109 ∨ c = 110 ∨ c = 111)) := by
  unfold letOf
  repeat' split
  all_goals omega
theorem lpS {T : Int → Int} {n u v a b c : Int} {p : Int → LR} {f : Nat} {acc ts : List Int} (h : ch T n (sk T n a) = c) (h1 : c = u ∨ c = v) (h2 : p (sk T n a + 1) = .inr (b, ts)) : loopL T n u v p (f + 1) a acc = loopL T n u v p f b (acc ++ ts ++ [-c]) := by rw [loopL_s (by omega) h2, h]
theorem lpF {T : Int → Int} {n u v a c e : Int} {p : Int → LR} {f : Nat} {acc : List Int} (h : ch T n (sk T n a) = c) (h1 : c = u ∨ c = v) (h2 : p (sk T n a + 1) = .inl e) : loopL T n u v p (f + 1) a acc = .inl e := loopL_f (by omega) h2
theorem lpE {T : Int → Int} {n u v a : Int} {p : Int → LR} {f : Nat} {acc : List Int} (hf : 1 ≤ f) (h : ¬ (ch T n (sk T n a) = u ∨ ch T n (sk T n a) = v)) : loopL T n u v p f a acc = .inr (sk T n a, acc) := by
  obtain ⟨g, rfl⟩ : ∃ g, f = g + 1 := ⟨f - 1, by omega⟩
  exact loopL_e h
def C_X12_sum (l : Launch) (K : Nat) (d : Nat) : Prop := ∀ (h0 : Nat) (hT : Nat) (f : Nat → AV) (T : Int → Int) (n : Int) (a : Int) (dp : Int) (hC : Nat) (hV : Nat) (hN : Nat) (C : Int → Int) (V : Int → Int) (Nk : Int → Int) (tx : Int) (k : Int), (f 1 = rv hT) → (f 2 = iv n) → (f 6 = rv hC) → (f 7 = rv hV) → (f 8 = rv hN) → (f 14 = iv tx) → (okT T n) → (0 ≤ a ∧ a ≤ n) → (0 ≤ tx ∧ tx ≤ 4) → (0 ≤ k ∧ k ≤ a) → (dp + K = 6 ∧ 0 ≤ dp) → AMv l yX12_sum cX12_sum 2 d 0 0 [rv h0] [(h0, ob 11 (uF (uF (uF f 3 (iv a)) 4 (iv (-1))) 5 (iv dp))), (hT, ar 160 T), (hC, ar 1700 C), (hV, ar 1700 V), (hN, ar 5 (uZ Nk tx k))] (fun u => (∃ a2 : Int, ∃ fl : Int, ∃ k2 : Int, ∃ dp2 : Int, ∃ C2 : Int → Int, ∃ V2 : Int → Int, u = [(h0, ob 11 (uF (uF (uF f 3 (iv a2)) 4 (iv fl)) 5 (iv dp2))), (hT, ar 160 T), (hC, ar 1700 C2), (hV, ar 1700 V2), (hN, ar 5 (uZ Nk tx k2))] ∧ pSum T n K a = .inl fl ∧ (0 ≤ fl ∧ fl ≤ n) ∧ (a ≤ a2 ∧ a2 ≤ n + K + 1 ∧ k ≤ k2 ∧ k2 - k ≤ a2 - a ∧ dp ≤ dp2 ∧ dp2 ≤ 7) ∧ frm tx C C2 ∧ frm tx V V2) ∨ (∃ a2 : Int, ∃ ts : List Int, u = [(h0, ob 11 (uF (uF (uF f 3 (iv a2)) 4 (iv (-1))) 5 (iv dp))), (hT, ar 160 T), (hC, ar 1700 (wrL C (340 * tx + k) (List.map kC ts))), (hV, ar 1700 (wrL V (340 * tx + k) (List.map kV ts))), (hN, ar 5 (uZ Nk tx (k + ((ts).length : Int))))] ∧ pSum T n K a = .inr (a2, ts)))
def C_X12_atom (l : Launch) (K : Nat) (d : Nat) : Prop := ∀ (h0 : Nat) (hT : Nat) (f : Nat → AV) (T : Int → Int) (n : Int) (a : Int) (dp : Int) (hC : Nat) (hV : Nat) (hN : Nat) (C : Int → Int) (V : Int → Int) (Nk : Int → Int) (tx : Int) (k : Int), (f 1 = rv hT) → (f 2 = iv n) → (f 6 = rv hC) → (f 7 = rv hV) → (f 8 = rv hN) → (f 14 = iv tx) → (okT T n) → (0 ≤ a ∧ a ≤ n) → (0 ≤ tx ∧ tx ≤ 4) → (0 ≤ k ∧ k ≤ a) → (dp + K = 6 ∧ 0 ≤ dp) → AMv l yX12_atom cX12_atom 2 d 0 0 [rv h0] [(h0, ob 11 (uF (uF (uF f 3 (iv a)) 4 (iv (-1))) 5 (iv dp))), (hT, ar 160 T), (hC, ar 1700 C), (hV, ar 1700 V), (hN, ar 5 (uZ Nk tx k))] (fun u => (∃ a2 : Int, ∃ fl : Int, ∃ k2 : Int, ∃ dp2 : Int, ∃ C2 : Int → Int, ∃ V2 : Int → Int, u = [(h0, ob 11 (uF (uF (uF f 3 (iv a2)) 4 (iv fl)) 5 (iv dp2))), (hT, ar 160 T), (hC, ar 1700 C2), (hV, ar 1700 V2), (hN, ar 5 (uZ Nk tx k2))] ∧ pAtom T n K a = .inl fl ∧ (0 ≤ fl ∧ fl ≤ n) ∧ (a ≤ a2 ∧ a2 ≤ n + K + 1 ∧ k ≤ k2 ∧ k2 - k ≤ a2 - a ∧ dp ≤ dp2 ∧ dp2 ≤ 7) ∧ frm tx C C2 ∧ frm tx V V2) ∨ (∃ a2 : Int, ∃ ts : List Int, u = [(h0, ob 11 (uF (uF (uF f 3 (iv a2)) 4 (iv (-1))) 5 (iv dp))), (hT, ar 160 T), (hC, ar 1700 (wrL C (340 * tx + k) (List.map kC ts))), (hV, ar 1700 (wrL V (340 * tx + k) (List.map kV ts))), (hN, ar 5 (uZ Nk tx (k + ((ts).length : Int))))] ∧ pAtom T n K a = .inr (a2, ts)))
def C_X12_term (l : Launch) (K : Nat) (d : Nat) : Prop := ∀ (h0 : Nat) (hT : Nat) (f : Nat → AV) (T : Int → Int) (n : Int) (a : Int) (dp : Int) (hC : Nat) (hV : Nat) (hN : Nat) (C : Int → Int) (V : Int → Int) (Nk : Int → Int) (tx : Int) (k : Int), (f 1 = rv hT) → (f 2 = iv n) → (f 6 = rv hC) → (f 7 = rv hV) → (f 8 = rv hN) → (f 14 = iv tx) → (okT T n) → (0 ≤ a ∧ a ≤ n) → (0 ≤ tx ∧ tx ≤ 4) → (0 ≤ k ∧ k ≤ a) → (dp + K = 6 ∧ 0 ≤ dp) → AMv l yX12_term cX12_term 2 d 0 0 [rv h0] [(h0, ob 11 (uF (uF (uF f 3 (iv a)) 4 (iv (-1))) 5 (iv dp))), (hT, ar 160 T), (hC, ar 1700 C), (hV, ar 1700 V), (hN, ar 5 (uZ Nk tx k))] (fun u => (∃ a2 : Int, ∃ fl : Int, ∃ k2 : Int, ∃ dp2 : Int, ∃ C2 : Int → Int, ∃ V2 : Int → Int, u = [(h0, ob 11 (uF (uF (uF f 3 (iv a2)) 4 (iv fl)) 5 (iv dp2))), (hT, ar 160 T), (hC, ar 1700 C2), (hV, ar 1700 V2), (hN, ar 5 (uZ Nk tx k2))] ∧ pTerm T n K a = .inl fl ∧ (0 ≤ fl ∧ fl ≤ n) ∧ (a ≤ a2 ∧ a2 ≤ n + K + 1 ∧ k ≤ k2 ∧ k2 - k ≤ a2 - a ∧ dp ≤ dp2 ∧ dp2 ≤ 7) ∧ frm tx C C2 ∧ frm tx V V2) ∨ (∃ a2 : Int, ∃ ts : List Int, u = [(h0, ob 11 (uF (uF (uF f 3 (iv a2)) 4 (iv (-1))) 5 (iv dp))), (hT, ar 160 T), (hC, ar 1700 (wrL C (340 * tx + k) (List.map kC ts))), (hV, ar 1700 (wrL V (340 * tx + k) (List.map kV ts))), (hN, ar 5 (uZ Nk tx (k + ((ts).length : Int))))] ∧ pTerm T n K a = .inr (a2, ts)))
def C_X12_compare (l : Launch) (K : Nat) (d : Nat) : Prop := ∀ (h0 : Nat) (hT : Nat) (f : Nat → AV) (T : Int → Int) (n : Int) (a : Int) (dp : Int) (hC : Nat) (hV : Nat) (hN : Nat) (C : Int → Int) (V : Int → Int) (Nk : Int → Int) (tx : Int) (k : Int), (f 1 = rv hT) → (f 2 = iv n) → (f 6 = rv hC) → (f 7 = rv hV) → (f 8 = rv hN) → (f 14 = iv tx) → (okT T n) → (0 ≤ a ∧ a ≤ n) → (0 ≤ tx ∧ tx ≤ 4) → (0 ≤ k ∧ k ≤ a) → (dp + K = 6 ∧ 0 ≤ dp) → AMv l yX12_compare cX12_compare 2 d 0 0 [rv h0] [(h0, ob 11 (uF (uF (uF f 3 (iv a)) 4 (iv (-1))) 5 (iv dp))), (hT, ar 160 T), (hC, ar 1700 C), (hV, ar 1700 V), (hN, ar 5 (uZ Nk tx k))] (fun u => (∃ a2 : Int, ∃ fl : Int, ∃ k2 : Int, ∃ dp2 : Int, ∃ C2 : Int → Int, ∃ V2 : Int → Int, u = [(h0, ob 11 (uF (uF (uF f 3 (iv a2)) 4 (iv fl)) 5 (iv dp2))), (hT, ar 160 T), (hC, ar 1700 C2), (hV, ar 1700 V2), (hN, ar 5 (uZ Nk tx k2))] ∧ cmpG T n K a = .inl fl ∧ (0 ≤ fl ∧ fl ≤ n) ∧ (a ≤ a2 ∧ a2 ≤ n + K + 1 ∧ k ≤ k2 ∧ k2 - k ≤ a2 - a ∧ dp ≤ dp2 ∧ dp2 ≤ 7) ∧ frm tx C C2 ∧ frm tx V V2) ∨ (∃ a2 : Int, ∃ ts : List Int, u = [(h0, ob 11 (uF (uF (uF f 3 (iv a2)) 4 (iv (-1))) 5 (iv dp))), (hT, ar 160 T), (hC, ar 1700 (wrL C (340 * tx + k) (List.map kC ts))), (hV, ar 1700 (wrL V (340 * tx + k) (List.map kV ts))), (hN, ar 5 (uZ Nk tx (k + ((ts).length : Int))))] ∧ cmpG T n K a = .inr (a2, ts)))
set_option maxHeartbeats 4000000 in
set_option maxRecDepth 100000 in
theorem kX12_atom (l : Launch) (K : Nat) (d : Nat) (hd : 5 ≤ d) (hnx : ∀ K2 : Nat, K = K2 + 1 → C_X12_sum l K2 d) : C_X12_atom l K (d + 1) := by
  intro h0 hT f T n a dp hC hV hN C V Nk tx k hf0 hf1 hf2 hf3 hf4 hf5 okT ha ht hk hw
  refine AMv.of2 rfl (nle rfl) ?_
  intro D G A p e s m args below meth c Po hPo hnm X
  obtain ⟨hn0, hn1, hT2⟩ := id okT
  have hsk := sk_in (T := T) ha.2
  have hcm := chM_or okT (a := sk T n a) (by omega) (by omega)
  refine S_aload_n X dX12_atom_0 rfl rfl ?_
  refine S_calli X (kX12_look l h0 hT f T n a (-1) dp hf0 hf1 (by omega) (by omega)) (is := [0, 1]) rfl (run_V X lkX12_130 0 rfl rfl (is := [0, 1]) (avs := []) (rest := []) rfl rfl (nle rfl) ⟨by simp only [rmD]; omega, by simp only [rmD]; omega⟩ ⟨nle rfl, nle rfl⟩ dX12_atom_1 (by decide) rfl) (fun z_3 u_1 hp_2 => ?_)
  obtain ⟨hz_4, hu_5⟩ := hp_2
  subst hz_4
  subst hu_5
  refine ⟨rfl, ?_⟩
  refine S_w (ws' := [(h0, ob 11 (uF (uF (uF f 3 (iv (sk T n a))) 4 (iv (-1))) 5 (iv dp))), (hT, ar 160 T), (hC, ar 1700 C), (hV, ar 1700 V), (hN, ar 5 (uZ Nk tx k))]) rfl ?_
  refine S_istore_n X dX12_atom_4 rfl (nle rfl) ?_
  refine S_iload_n X dX12_atom_5 rfl rfl ?_
  refine S_calli X (kX12_isDigit l (chM T n (sk T n a)) (by omega)) (is := []) rfl (run_S X lkX12_133 (is := []) (avs := [iv (chM T n (sk T n a))]) (rest := []) rfl rfl (nle rfl) ⟨by simp only [rmD]; omega, by simp only [rmD]; omega⟩ ⟨nle rfl, nle rfl⟩ dX12_atom_6 (by decide) rfl) (fun z_8 u_6 hp_7 => ?_)
  rcases hp_7 with ⟨hz_9, hu_10, hd_11⟩ | ⟨hz_12, hu_13, hd_14⟩
  ·
    subst hz_9
    subst hu_10
    refine ⟨rfl, ?_⟩
    refine S_w (ws' := [(h0, ob 11 (uF (uF (uF f 3 (iv (sk T n a))) 4 (iv (-1))) 5 (iv dp))), (hT, ar 160 T), (hC, ar 1700 C), (hV, ar 1700 V), (hN, ar 5 (uZ Nk tx k))]) rfl ?_
    refine S_if_eq (tgt := 24) X dX12_atom_9 (by decide) (by decide) (fun _ => ?_) (fun h9 => absurd h9 (by decide))
    refine S_iload_n X dX12_atom_24 rfl rfl ?_
    refine S_calli X (kX12_letterOf l (chM T n (sk T n a)) (by omega)) (is := []) rfl (run_S X lkX12_144 (is := []) (avs := [iv (chM T n (sk T n a))]) (rest := []) rfl rfl (nle rfl) ⟨by simp only [rmD]; omega, by simp only [rmD]; omega⟩ ⟨nle rfl, nle rfl⟩ dX12_atom_25 (by decide) rfl) (fun z_18 u_16 hp_17 => ?_)
    obtain ⟨hz_19, hu_20⟩ := hp_17
    subst hz_19
    subst hu_20
    refine ⟨rfl, ?_⟩
    refine S_w (ws' := [(h0, ob 11 (uF (uF (uF f 3 (iv (sk T n a))) 4 (iv (-1))) 5 (iv dp))), (hT, ar 160 T), (hC, ar 1700 C), (hV, ar 1700 V), (hN, ar 5 (uZ Nk tx k))]) rfl ?_
    have hlm := letOf_m (c := chM T n (sk T n a))
    refine S_iconst X dX12_atom_28 ?_
    refine S_icmp_eq (tgt := 54) X dX12_atom_29 (by decide) (by omega) (by decide) (fun c_21 => ?_) (fun c_21 => ?_)
    ·
      refine S_iload_n X dX12_atom_54 rfl rfl ?_
      refine S_bipush X dX12_atom_55 rfl ?_
      refine S_icmp_ne (tgt := 85) X dX12_atom_57 (by decide) (by omega) (by decide) (fun c_22 => ?_) (fun c_22 => ?_)
      ·
        refine S_aload_n X dX12_atom_85 rfl rfl ?_
        refine S_callv X (kX12_bad l h0 f (sk T n a) (-1) dp (by omega)) (is := [0]) rfl (run_V X lkX12_127 0 rfl rfl (is := [0]) (avs := []) (rest := []) rfl rfl (nle rfl) ⟨by simp only [rmD]; omega, by simp only [rmD]; omega⟩ ⟨nle rfl, nle rfl⟩ dX12_atom_86 (by decide) rfl) (fun u_23 hp_24 => ?_)
        have hu_27 := hp_24
        subst hu_27
        refine ⟨rfl, ?_⟩
        refine S_w (ws' := [(h0, ob 11 (uF (uF (uF f 3 (iv (sk T n a))) 4 (iv (sk T n a))) 5 (iv dp))), (hT, ar 160 T), (hC, ar 1700 C), (hV, ar 1700 V), (hN, ar 5 (uZ Nk tx k))]) rfl ?_
        exact S_vret X (nle rfl) (nle rfl) dX12_atom_89 (hPo _ (Or.inl ⟨_, _, _, _, _, _, rfl, pAtom_no (by omega) (by omega) (by omega), by omega, by omega, by first | exact frm_0 | assumption | exact frm_r (by omega) (by omega) | exact frm_w (by assumption) (by omega) (by omega) | exact frm_p frm_0 (by omega) | exact frm_p (by assumption) (by omega) | exact frm_p (frm_w (by assumption) (by omega) (by omega)) (by omega), by first | exact frm_0 | assumption | exact frm_r (by omega) (by omega) | exact frm_w (by assumption) (by omega) (by omega) | exact frm_p frm_0 (by omega) | exact frm_p (by assumption) (by omega) | exact frm_p (frm_w (by assumption) (by omega) (by omega)) (by omega)⟩))
      ·
        refine S_aload_n X dX12_atom_60 rfl rfl ?_
        refine S_callv X (kX12_opens l h0 f (sk T n a) (-1) dp (by omega) (by omega)) (is := [0]) rfl (run_V X lkX12_148 0 rfl rfl (is := [0]) (avs := []) (rest := []) rfl rfl (nle rfl) ⟨by simp only [rmD]; omega, by simp only [rmD]; omega⟩ ⟨nle rfl, nle rfl⟩ dX12_atom_61 (by decide) rfl) (fun u_28 hp_29 => ?_)
        rcases hp_29 with ⟨hu_32, hq_33⟩ | ⟨hu_35, hq_36⟩
        ·
          subst hu_32
          refine ⟨rfl, ?_⟩
          refine S_w (ws' := [(h0, ob 11 (uF (uF (uF f 3 (iv ((sk T n a) + 1))) 4 (iv (sk T n a))) 5 (iv (dp + 1)))), (hT, ar 160 T), (hC, ar 1700 C), (hV, ar 1700 V), (hN, ar 5 (uZ Nk tx k))]) rfl ?_
          refine S_aload_n X dX12_atom_64 rfl rfl ?_
          refine S_get (v := iv (sk T n a)) X fgX12_118_11 0 rfl rfl dX12_atom_65 ?_
          refine S_iconst X dX12_atom_68 ?_
          refine S_icmp_ne (tgt := 89) X dX12_atom_69 (by decide) (by omega) (by decide) (fun c_37 => ?_) (fun c_37 => by exfalso; omega)
          exact S_vret X (nle rfl) (nle rfl) dX12_atom_89 (hPo _ (Or.inl ⟨_, _, _, _, _, _, rfl, pAtom_no (by omega) (by omega) (by omega), by omega, by omega, by first | exact frm_0 | assumption | exact frm_r (by omega) (by omega) | exact frm_w (by assumption) (by omega) (by omega) | exact frm_p frm_0 (by omega) | exact frm_p (by assumption) (by omega) | exact frm_p (frm_w (by assumption) (by omega) (by omega)) (by omega), by first | exact frm_0 | assumption | exact frm_r (by omega) (by omega) | exact frm_w (by assumption) (by omega) (by omega) | exact frm_p frm_0 (by omega) | exact frm_p (by assumption) (by omega) | exact frm_p (frm_w (by assumption) (by omega) (by omega)) (by omega)⟩))
        ·
          subst hu_35
          refine ⟨rfl, ?_⟩
          refine S_w (ws' := [(h0, ob 11 (uF (uF (uF f 3 (iv ((sk T n a) + 1))) 4 (iv (-1))) 5 (iv (dp + 1)))), (hT, ar 160 T), (hC, ar 1700 C), (hV, ar 1700 V), (hN, ar 5 (uZ Nk tx k))]) rfl ?_
          obtain ⟨K2, hK2⟩ : ∃ K2 : Nat, K = K2 + 1 := ⟨K - 1, by omega⟩
          refine S_aload_n X dX12_atom_64 rfl rfl ?_
          refine S_get (v := iv (-1)) X fgX12_118_11 0 rfl rfl dX12_atom_65 ?_
          refine S_iconst X dX12_atom_68 ?_
          refine S_icmp_ne (tgt := 89) X dX12_atom_69 (by decide) (by decide) (by decide) (fun h9 => absurd h9 (by decide)) (fun _ => ?_)
          refine S_aload_n X dX12_atom_72 rfl rfl ?_
          refine S_callv X ((hnx K2 hK2) h0 hT f T n ((sk T n a) + 1) (dp + 1) hC hV hN C V Nk tx k hf0 hf1 hf2 hf3 hf4 hf5 (by omega) (by omega) (by omega) (by omega) (by omega)) (is := [0, 1, 2, 3, 4]) rfl (run_V X lkX12_151 0 rfl rfl (is := [0, 1, 2, 3, 4]) (avs := []) (rest := []) rfl rfl (nle rfl) ⟨by simp only [rmD]; omega, by simp only [rmD]; omega⟩ ⟨nle rfl, nle rfl⟩ dX12_atom_73 (by decide) rfl) (fun u_39 hp_40 => ?_)
          rcases hp_40 with ⟨a2_42, fl_43, k2_44, dp2_45, C2_46, V2_47, hu_49, hq_50, hfl_51, hr_52, hfC_53, hfV_54⟩ | ⟨a2_55, ts_56, hu_58, hq_59⟩
          ·
            subst hu_49
            refine ⟨rfl, ?_⟩
            refine S_w (ws' := [(h0, ob 11 (uF (uF (uF f 3 (iv a2_42)) 4 (iv fl_43)) 5 (iv dp2_45))), (hT, ar 160 T), (hC, ar 1700 C2_46), (hV, ar 1700 V2_47), (hN, ar 5 (uZ Nk tx k2_44))]) rfl ?_
            refine S_aload_n X dX12_atom_76 rfl rfl ?_
            refine S_bipush X dX12_atom_77 rfl ?_
            refine S_callv X (kX12_closes_E l h0 f a2_42 fl_43 dp2_45 93 (by omega) (by omega)) (is := [0]) rfl (run_V X lkX12_154 0 rfl rfl (is := [0]) (avs := [iv 93]) (rest := []) rfl rfl (nle rfl) ⟨by simp only [rmD]; omega, by simp only [rmD]; omega⟩ ⟨nle rfl, nle rfl⟩ dX12_atom_79 (by decide) rfl) (fun u_60 hp_61 => ?_)
            have hu_64 := hp_61
            subst hu_64
            refine ⟨rfl, ?_⟩
            refine S_w (ws' := [(h0, ob 11 (uF (uF (uF f 3 (iv (a2_42 + 1))) 4 (iv fl_43)) 5 (iv (dp2_45 - 1)))), (hT, ar 160 T), (hC, ar 1700 C2_46), (hV, ar 1700 V2_47), (hN, ar 5 (uZ Nk tx k2_44))]) rfl ?_
            refine S_goto (tgt := 89) X dX12_atom_82 (by decide) ?_
            exact S_vret X (nle rfl) (nle rfl) dX12_atom_89 (hPo _ (Or.inl ⟨_, _, _, _, _, _, rfl, by rw [hK2]; exact pAtom_brf (by omega) hq_50, by omega, by omega, by first | exact frm_0 | assumption | exact frm_r (by omega) (by omega) | exact frm_w (by assumption) (by omega) (by omega) | exact frm_p frm_0 (by omega) | exact frm_p (by assumption) (by omega) | exact frm_p (frm_w (by assumption) (by omega) (by omega)) (by omega), by first | exact frm_0 | assumption | exact frm_r (by omega) (by omega) | exact frm_w (by assumption) (by omega) (by omega) | exact frm_p frm_0 (by omega) | exact frm_p (by assumption) (by omega) | exact frm_p (frm_w (by assumption) (by omega) (by omega)) (by omega)⟩))
          ·
            subst hu_58
            refine ⟨rfl, ?_⟩
            refine S_w (ws' := [(h0, ob 11 (uF (uF (uF f 3 (iv a2_55)) 4 (iv (-1))) 5 (iv (dp + 1)))), (hT, ar 160 T), (hC, ar 1700 (wrL C (340 * tx + k) (List.map kC ts_56))), (hV, ar 1700 (wrL V (340 * tx + k) (List.map kV ts_56))), (hN, ar 5 (uZ Nk tx (k + ((ts_56).length : Int))))]) rfl ?_
            have ho_65 := ((pAS_ok (T := T) hn1 K2).2 (sk T n a + 1) (by omega) (by omega)).2 _ hq_59
            dsimp only at ho_65
            have hskb := sk_in (T := T) (n := n) (a := a2_55) (by omega)
            refine S_aload_n X dX12_atom_76 rfl rfl ?_
            refine S_bipush X dX12_atom_77 rfl ?_
            refine S_callv X (kX12_closes_N l h0 hT f T n a2_55 (-1) (dp + 1) 93 hf0 hf1 (by omega) (by omega) (by omega) (by omega)) (is := [0, 1]) rfl (run_V X lkX12_154 0 rfl rfl (is := [0, 1]) (avs := [iv 93]) (rest := []) rfl rfl (nle rfl) ⟨by simp only [rmD]; omega, by simp only [rmD]; omega⟩ ⟨nle rfl, nle rfl⟩ dX12_atom_79 (by decide) rfl) (fun u_66 hp_67 => ?_)
            rcases hp_67 with ⟨hu_70, hq_71⟩ | ⟨hu_73, hq_74⟩
            ·
              subst hu_70
              refine ⟨rfl, ?_⟩
              refine S_w (ws' := [(h0, ob 11 (uF (uF (uF f 3 (iv ((sk T n a2_55) + 1))) 4 (iv (sk T n a2_55))) 5 (iv ((dp + 1) - 1)))), (hT, ar 160 T), (hC, ar 1700 (wrL C (340 * tx + k) (List.map kC ts_56))), (hV, ar 1700 (wrL V (340 * tx + k) (List.map kV ts_56))), (hN, ar 5 (uZ Nk tx (k + ((ts_56).length : Int))))]) rfl ?_
              refine S_goto (tgt := 89) X dX12_atom_82 (by decide) ?_
              exact S_vret X (nle rfl) (nle rfl) dX12_atom_89 (hPo _ (Or.inl ⟨_, _, _, _, _, _, rfl, by rw [hK2]; exact (pAtom_br (by omega) hq_59).trans (if_neg hq_71), by omega, by omega, by first | exact frm_0 | assumption | exact frm_r (by omega) (by omega) | exact frm_w (by assumption) (by omega) (by omega) | exact frm_p frm_0 (by omega) | exact frm_p (by assumption) (by omega) | exact frm_p (frm_w (by assumption) (by omega) (by omega)) (by omega), by first | exact frm_0 | assumption | exact frm_r (by omega) (by omega) | exact frm_w (by assumption) (by omega) (by omega) | exact frm_p frm_0 (by omega) | exact frm_p (by assumption) (by omega) | exact frm_p (frm_w (by assumption) (by omega) (by omega)) (by omega)⟩))
            ·
              subst hu_73
              refine ⟨rfl, ?_⟩
              refine S_w (ws' := [(h0, ob 11 (uF (uF (uF f 3 (iv ((sk T n a2_55) + 1))) 4 (iv (-1))) 5 (iv ((dp + 1) - 1)))), (hT, ar 160 T), (hC, ar 1700 (wrL C (340 * tx + k) (List.map kC ts_56))), (hV, ar 1700 (wrL V (340 * tx + k) (List.map kV ts_56))), (hN, ar 5 (uZ Nk tx (k + ((ts_56).length : Int))))]) rfl ?_
              refine S_w (ws' := [(h0, ob 11 (uF (uF (uF f 3 (iv ((sk T n a2_55) + 1))) 4 (iv (-1))) 5 (iv dp))), (hT, ar 160 T), (hC, ar 1700 (wrL C (340 * tx + k) (List.map kC ts_56))), (hV, ar 1700 (wrL V (340 * tx + k) (List.map kV ts_56))), (hN, ar 5 (uZ Nk tx (k + ((ts_56).length : Int))))]) (by rw [show (dp + 1) - 1 = dp by omega]) ?_
              refine S_goto (tgt := 89) X dX12_atom_82 (by decide) ?_
              exact S_vret X (nle rfl) (nle rfl) dX12_atom_89 (hPo _ (Or.inr ⟨_, _, rfl, by rw [hK2]; exact (pAtom_br (by omega) hq_59).trans (if_pos hq_74)⟩))
    ·
      refine S_aload_n X dX12_atom_32 rfl rfl ?_
      refine S_dup X dX12_atom_33 ?_
      refine S_get (v := iv (sk T n a)) X fgX12_111_11 0 rfl rfl dX12_atom_34 ?_
      refine S_iconst X dX12_atom_37 ?_
      refine S_iadd X dX12_atom_38 ?_
      refine S_put X fpX12_111_11 0 rfl FT_i dX12_atom_39 ?_
      refine S_w (ws' := [(h0, ob 11 (uF (uF (uF f 3 (iv ((sk T n a) + 1))) 4 (iv (-1))) 5 (iv dp))), (hT, ar 160 T), (hC, ar 1700 C), (hV, ar 1700 V), (hN, ar 5 (uZ Nk tx k))]) (by simp only [List.set]; rw [uF_mv (j := 5) (k := 3) (by decide), uF_mv (j := 4) (k := 3) (by decide), uF_same (k := 3)]) ?_
      refine S_aload_n X dX12_atom_42 rfl rfl ?_
      refine S_iconst X dX12_atom_43 ?_
      refine S_iload_n X dX12_atom_44 rfl rfl ?_
      refine S_calli X (kX12_letterOf l (chM T n (sk T n a)) (by omega)) (is := []) rfl (run_S X lkX12_144 (is := []) (avs := [iv (chM T n (sk T n a))]) (rest := [iv 1, rv h0]) rfl rfl (nle rfl) ⟨by simp only [rmD]; omega, by simp only [rmD]; omega⟩ ⟨nle rfl, nle rfl⟩ dX12_atom_45 (by decide) rfl) (fun z_77 u_75 hp_76 => ?_)
      obtain ⟨hz_78, hu_79⟩ := hp_76
      subst hz_78
      subst hu_79
      refine ⟨rfl, ?_⟩
      refine S_w (ws' := [(h0, ob 11 (uF (uF (uF f 3 (iv ((sk T n a) + 1))) 4 (iv (-1))) 5 (iv dp))), (hT, ar 160 T), (hC, ar 1700 C), (hV, ar 1700 V), (hN, ar 5 (uZ Nk tx k))]) rfl ?_
      refine S_callv X (kX12_put l h0 f ((sk T n a) + 1) (-1) dp hC hV hN C V Nk tx k 1 (letOf (chM T n (sk T n a))) hf2 hf3 hf4 hf5 (by omega) (by omega)) (is := [0, 2, 3, 4]) rfl (run_V X lkX12_140 0 rfl rfl (is := [0, 2, 3, 4]) (avs := [iv 1, iv (letOf (chM T n (sk T n a)))]) (rest := []) rfl rfl (nle rfl) ⟨by simp only [rmD]; omega, by simp only [rmD]; omega⟩ ⟨nle rfl, nle rfl⟩ dX12_atom_48 (by decide) rfl) (fun u_80 hp_81 => ?_)
      have hu_84 := hp_81
      subst hu_84
      refine ⟨rfl, ?_⟩
      refine S_w (ws' := [(h0, ob 11 (uF (uF (uF f 3 (iv ((sk T n a) + 1))) 4 (iv (-1))) 5 (iv dp))), (hT, ar 160 T), (hC, ar 1700 (uZ C (340 * tx + k) 1)), (hV, ar 1700 (uZ V (340 * tx + k) (letOf (chM T n (sk T n a))))), (hN, ar 5 (uZ Nk tx (k + 1)))]) rfl ?_
      have hce : chM T n (sk T n a) = ch T n (sk T n a) := by omega
      refine S_w (ws' := [(h0, ob 11 (uF (uF (uF f 3 (iv ((sk T n a) + 1))) 4 (iv (-1))) 5 (iv dp))), (hT, ar 160 T), (hC, ar 1700 (wrL C (340 * tx + k) (List.map kC ([-chM T n (sk T n a)])))), (hV, ar 1700 (wrL V (340 * tx + k) (List.map kV ([-chM T n (sk T n a)])))), (hN, ar 5 (uZ Nk tx (k + (([-chM T n (sk T n a)]).length : Int))))]) (by rw [rW_one (g := kC) (-chM T n (sk T n a)) (k_let (c := chM T n (sk T n a)) (by omega)).1, rW_one (g := kV) (-chM T n (sk T n a)) (k_let (c := chM T n (sk T n a)) (by omega)).2, rK_one (k := k) (-chM T n (sk T n a))]) ?_
      refine S_goto (tgt := 89) X dX12_atom_51 (by decide) ?_
      exact S_vret X (nle rfl) (nle rfl) dX12_atom_89 (hPo _ (Or.inr ⟨_, _, rfl, by rw [hce]; exact pAtom_let (by omega) (by omega)⟩))
  ·
    subst hz_12
    subst hu_13
    refine ⟨rfl, ?_⟩
    refine S_w (ws' := [(h0, ob 11 (uF (uF (uF f 3 (iv (sk T n a))) 4 (iv (-1))) 5 (iv dp))), (hT, ar 160 T), (hC, ar 1700 C), (hV, ar 1700 V), (hN, ar 5 (uZ Nk tx k))]) rfl ?_
    have hchT : ch T n (sk T n a) = T (sk T n a) := if_pos (by omega)
    refine S_if_eq (tgt := 24) X dX12_atom_9 (by decide) (by decide) (fun h9 => absurd h9 (by decide)) (fun _ => ?_)
    refine S_aload_n X dX12_atom_12 rfl rfl ?_
    refine S_iconst X dX12_atom_13 ?_
    refine S_aload_n X dX12_atom_14 rfl rfl ?_
    refine S_calli X (kX12_plainNumber l h0 hT f T n (sk T n a) (-1) dp hf0 hf1 (by omega) (by omega) (by omega) (by omega)) (is := [0, 1]) rfl (run_V X lkX12_137 0 rfl rfl (is := [0, 1]) (avs := []) (rest := [iv 0, rv h0]) rfl rfl (nle rfl) ⟨by simp only [rmD]; omega, by simp only [rmD]; omega⟩ ⟨nle rfl, nle rfl⟩ dX12_atom_15 (by decide) rfl) (fun z_88 u_86 hp_87 => ?_)
    rcases hp_87 with ⟨a2_89, v_90, hz_91, hu_92, hq_93, hr_94⟩ | ⟨a2_95, v_96, hz_97, hu_98, hq_99⟩
    ·
      subst hz_91
      subst hu_92
      refine ⟨rfl, ?_⟩
      refine S_w (ws' := [(h0, ob 11 (uF (uF (uF f 3 (iv a2_89)) 4 (iv a2_89)) 5 (iv dp))), (hT, ar 160 T), (hC, ar 1700 C), (hV, ar 1700 V), (hN, ar 5 (uZ Nk tx k))]) rfl ?_
      have hpn_100 := (pNum_in (T := T) (n := n) (dg := 4) (lo := 0) (hi := 9999) (a := sk T n a) (by omega) (by decide) hn1 (by omega)).1 _ hq_93
      try dsimp only at hpn_100
      refine S_callv X (kX12_put l h0 f a2_89 a2_89 dp hC hV hN C V Nk tx k 0 z_88 hf2 hf3 hf4 hf5 (by omega) (by omega)) (is := [0, 2, 3, 4]) rfl (run_V X lkX12_140 0 rfl rfl (is := [0, 2, 3, 4]) (avs := [iv 0, iv z_88]) (rest := []) rfl rfl (nle rfl) ⟨by simp only [rmD]; omega, by simp only [rmD]; omega⟩ ⟨nle rfl, nle rfl⟩ dX12_atom_18 (by decide) rfl) (fun u_101 hp_102 => ?_)
      have hu_105 := hp_102
      subst hu_105
      refine ⟨rfl, ?_⟩
      refine S_w (ws' := [(h0, ob 11 (uF (uF (uF f 3 (iv a2_89)) 4 (iv a2_89)) 5 (iv dp))), (hT, ar 160 T), (hC, ar 1700 (uZ C (340 * tx + k) 0)), (hV, ar 1700 (uZ V (340 * tx + k) z_88)), (hN, ar 5 (uZ Nk tx (k + 1)))]) rfl ?_
      refine S_goto (tgt := 89) X dX12_atom_21 (by decide) ?_
      exact S_vret X (nle rfl) (nle rfl) dX12_atom_89 (hPo _ (Or.inl ⟨_, _, _, _, _, _, rfl, by rw [pAtom_num (by omega), hq_93], by omega, by omega, by first | exact frm_0 | assumption | exact frm_r (by omega) (by omega) | exact frm_w (by assumption) (by omega) (by omega) | exact frm_p frm_0 (by omega) | exact frm_p (by assumption) (by omega) | exact frm_p (frm_w (by assumption) (by omega) (by omega)) (by omega), by first | exact frm_0 | assumption | exact frm_r (by omega) (by omega) | exact frm_w (by assumption) (by omega) (by omega) | exact frm_p frm_0 (by omega) | exact frm_p (by assumption) (by omega) | exact frm_p (frm_w (by assumption) (by omega) (by omega)) (by omega)⟩))
    ·
      subst hz_97
      subst hu_98
      refine ⟨rfl, ?_⟩
      refine S_w (ws' := [(h0, ob 11 (uF (uF (uF f 3 (iv a2_95)) 4 (iv (-1))) 5 (iv dp))), (hT, ar 160 T), (hC, ar 1700 C), (hV, ar 1700 V), (hN, ar 5 (uZ Nk tx k))]) rfl ?_
      have hpn_106 := (pNum_in (T := T) (n := n) (dg := 4) (lo := 0) (hi := 9999) (a := sk T n a) (by omega) (by decide) hn1 (by omega)).2 _ hq_99
      try dsimp only at hpn_106
      refine S_callv X (kX12_put l h0 f a2_95 (-1) dp hC hV hN C V Nk tx k 0 z_88 hf2 hf3 hf4 hf5 (by omega) (by omega)) (is := [0, 2, 3, 4]) rfl (run_V X lkX12_140 0 rfl rfl (is := [0, 2, 3, 4]) (avs := [iv 0, iv z_88]) (rest := []) rfl rfl (nle rfl) ⟨by simp only [rmD]; omega, by simp only [rmD]; omega⟩ ⟨nle rfl, nle rfl⟩ dX12_atom_18 (by decide) rfl) (fun u_107 hp_108 => ?_)
      have hu_111 := hp_108
      subst hu_111
      refine ⟨rfl, ?_⟩
      refine S_w (ws' := [(h0, ob 11 (uF (uF (uF f 3 (iv a2_95)) 4 (iv (-1))) 5 (iv dp))), (hT, ar 160 T), (hC, ar 1700 (uZ C (340 * tx + k) 0)), (hV, ar 1700 (uZ V (340 * tx + k) z_88)), (hN, ar 5 (uZ Nk tx (k + 1)))]) rfl ?_
      refine S_w (ws' := [(h0, ob 11 (uF (uF (uF f 3 (iv a2_95)) 4 (iv (-1))) 5 (iv dp))), (hT, ar 160 T), (hC, ar 1700 (wrL C (340 * tx + k) (List.map kC ([z_88])))), (hV, ar 1700 (wrL V (340 * tx + k) (List.map kV ([z_88])))), (hN, ar 5 (uZ Nk tx (k + (([z_88]).length : Int))))]) (by rw [rW_one (g := kC) z_88 (k_num (v := z_88) (by omega)).1, rW_one (g := kV) z_88 (k_num (v := z_88) (by omega)).2, rK_one (k := k) z_88]) ?_
      refine S_goto (tgt := 89) X dX12_atom_21 (by decide) ?_
      exact S_vret X (nle rfl) (nle rfl) dX12_atom_89 (hPo _ (Or.inr ⟨_, _, rfl, by rw [pAtom_num (by omega), hq_99]⟩))
set_option maxHeartbeats 4000000 in
set_option maxRecDepth 100000 in
theorem kX12_term (l : Launch) (K : Nat) (d : Nat) (hd : 5 ≤ d) (hat : C_X12_atom l K d) : C_X12_term l K (d + 1) := by
  intro h0 hT f T n a dp hC hV hN C V Nk tx k hf0 hf1 hf2 hf3 hf4 hf5 okT ha ht hk hw
  refine AMv.of2 rfl (nle rfl) ?_
  intro D G A p e s m args below meth c Po hPo hnm X
  obtain ⟨hn0, hn1, hT2⟩ := id okT
  have hsk := sk_in (T := T) ha.2
  have hcm := chM_or okT (a := sk T n a) (by omega) (by omega)
  refine S_aload_n X dX12_term_0 rfl rfl ?_
  refine S_callv X (hat h0 hT f T n a dp hC hV hN C V Nk tx k hf0 hf1 hf2 hf3 hf4 hf5 (by omega) (by omega) (by omega) (by omega) (by omega)) (is := [0, 1, 2, 3, 4]) rfl (run_V X lkX12_158 0 rfl rfl (is := [0, 1, 2, 3, 4]) (avs := []) (rest := []) rfl rfl (nle rfl) ⟨by simp only [rmD]; omega, by simp only [rmD]; omega⟩ ⟨nle rfl, nle rfl⟩ dX12_term_1 (by decide) rfl) (fun u_1 hp_2 => ?_)
  rcases hp_2 with ⟨a2_4, fl_5, k2_6, dp2_7, C2_8, V2_9, hu_11, hq_12, hfl_13, hr_14, hfC_15, hfV_16⟩ | ⟨a2_17, ts_18, hu_20, hq_21⟩
  ·
    subst hu_11
    refine ⟨rfl, ?_⟩
    refine S_w (ws' := [(h0, ob 11 (uF (uF (uF f 3 (iv a2_4)) 4 (iv fl_5)) 5 (iv dp2_7))), (hT, ar 160 T), (hC, ar 1700 C2_8), (hV, ar 1700 V2_9), (hN, ar 5 (uZ Nk tx k2_6))]) rfl ?_
    refine S_aload_n X dX12_term_4 rfl rfl ?_
    refine S_get (v := iv fl_5) X fgX12_118_11 0 rfl rfl dX12_term_5 ?_
    refine S_iconst X dX12_term_8 ?_
    refine S_icmp_ne (tgt := 19) X dX12_term_9 (by decide) (by omega) (by decide) (fun c_22 => ?_) (fun c_22 => by exfalso; omega)
    refine S_iconst X dX12_term_19 ?_
    refine S_istore_n X dX12_term_20 rfl (nle rfl) ?_
    refine S_iload_n X dX12_term_21 rfl rfl ?_
    refine S_bipush X dX12_term_22 rfl ?_
    refine S_icmp_eq (tgt := 33) X dX12_term_24 (by decide) (by decide) (by decide) (fun h9 => absurd h9 (by decide)) (fun _ => ?_)
    refine S_iload_n X dX12_term_27 rfl rfl ?_
    refine S_bipush X dX12_term_28 rfl ?_
    refine S_icmp_ne (tgt := 83) X dX12_term_30 (by decide) (by decide) (by decide) (fun _ => ?_) (fun h9 => absurd h9 (by decide))
    exact S_vret X (nle rfl) (nle rfl) dX12_term_83 (hPo _ (Or.inl ⟨_, _, _, _, _, _, rfl, seqG_f hq_12, by omega, by omega, by first | exact frm_0 | assumption | exact frm_r (by omega) (by omega) | exact frm_w (by assumption) (by omega) (by omega) | exact frm_p frm_0 (by omega) | exact frm_p (by assumption) (by omega) | exact frm_p (frm_w (by assumption) (by omega) (by omega)) (by omega), by first | exact frm_0 | assumption | exact frm_r (by omega) (by omega) | exact frm_w (by assumption) (by omega) (by omega) | exact frm_p frm_0 (by omega) | exact frm_p (by assumption) (by omega) | exact frm_p (frm_w (by assumption) (by omega) (by omega)) (by omega)⟩))
  ·
    subst hu_20
    refine ⟨rfl, ?_⟩
    refine S_w (ws' := [(h0, ob 11 (uF (uF (uF f 3 (iv a2_17)) 4 (iv (-1))) 5 (iv dp))), (hT, ar 160 T), (hC, ar 1700 (wrL C (340 * tx + k) (List.map kC ts_18))), (hV, ar 1700 (wrL V (340 * tx + k) (List.map kV ts_18))), (hN, ar 5 (uZ Nk tx (k + ((ts_18).length : Int))))]) rfl ?_
    have ho_25 := ((pAS_ok (T := T) hn1 K).1 a (by omega) (by omega)).2 _ hq_21
    dsimp only at ho_25
    refine S_aload_n X dX12_term_4 rfl rfl ?_
    refine S_get (v := iv (-1)) X fgX12_118_11 0 rfl rfl dX12_term_5 ?_
    refine S_iconst X dX12_term_8 ?_
    refine S_icmp_ne (tgt := 19) X dX12_term_9 (by decide) (by decide) (by decide) (fun h9 => absurd h9 (by decide)) (fun _ => ?_)
    refine S_aload_n X dX12_term_12 rfl rfl ?_
    refine S_calli X (kX12_look l h0 hT f T n a2_17 (-1) dp hf0 hf1 (by omega) (by omega)) (is := [0, 1]) rfl (run_V X lkX12_130 0 rfl rfl (is := [0, 1]) (avs := []) (rest := []) rfl rfl (nle rfl) ⟨by simp only [rmD]; omega, by simp only [rmD]; omega⟩ ⟨nle rfl, nle rfl⟩ dX12_term_13 (by decide) rfl) (fun z_29 u_27 hp_28 => ?_)
    obtain ⟨hz_30, hu_31⟩ := hp_28
    subst hz_30
    subst hu_31
    refine ⟨rfl, ?_⟩
    refine S_w (ws' := [(h0, ob 11 (uF (uF (uF f 3 (iv (sk T n a2_17))) 4 (iv (-1))) 5 (iv dp))), (hT, ar 160 T), (hC, ar 1700 (wrL C (340 * tx + k) (List.map kC ts_18))), (hV, ar 1700 (wrL V (340 * tx + k) (List.map kV ts_18))), (hN, ar 5 (uZ Nk tx (k + ((ts_18).length : Int))))]) rfl ?_
    have hsk_32 := sk_in (T := T) (n := n) (a := a2_17) (by omega)
    have hcm_32 := chM_or okT (a := sk T n a2_17) (by omega) (by omega)
    refine S_goto (tgt := 20) X dX12_term_16 (by decide) ?_
    refine S_istore_n X dX12_term_20 rfl (nle rfl) ?_
    refine S_iload_n X dX12_term_21 rfl rfl ?_
    refine S_bipush X dX12_term_22 rfl ?_
    refine S_icmp_eq (tgt := 33) X dX12_term_24 (by decide) (by omega) (by decide) (fun c_33 => ?_) (fun c_33 => ?_)
    ·
      have lp33_2 : ∀ (N : Nat) (a1 : Int) (c1 : Int) (acc : List Int) (L : Nat → Option AV), a < a1 ∧ a1 ≤ n → c1 = chM T n (sk T n a1) ∧ (c1 = 42 ∨ c1 = 47) → (acc.length : Int) ≤ a1 - a → (∃ f : Nat, 161 - a1 ≤ f ∧ loopL T n 42 47 (pAtom T n K) f a1 acc = pTerm T n K a) → L 0 = some (rv h0) → L 1 = some (iv c1) → 161 - a1 < (N : Int) → S_ p l e (rmD (d + 1) 0 0) s m args below meth c (MQ below (QcV D G A Po) args s 0 0 A) D G A 2 0 0 33 L [] [(h0, ob 11 (uF (uF (uF f 3 (iv (sk T n a1))) 4 (iv (-1))) 5 (iv dp))), (hT, ar 160 T), (hC, ar 1700 (wrL C (340 * tx + k) (List.map kC acc))), (hV, ar 1700 (wrL V (340 * tx + k) (List.map kV acc))), (hN, ar 5 (uZ Nk tx (k + ((acc).length : Int))))] := by
        intro N
        induction N with
        | zero =>
          intro a1 c1 acc L33 hi hc1 hbd hkl hL33_0 hL33_1 hN33
          exfalso; omega
        | succ N ih33 =>
          intro a1 c1 acc L33 hi hc1 hbd hkl hL33_0 hL33_1 hN33
          obtain ⟨f9, hf9, hk9⟩ := hkl
          obtain ⟨g9, rfl⟩ : ∃ g, f9 = g + 1 := ⟨f9 - 1, by omega⟩
          have hsk1 := sk_in (T := T) (n := n) (a := a1) (by omega)
          have hcm1 := chM_or okT (a := sk T n a1) (by omega) (by omega)
          refine S_aload_n X dX12_term_33 rfl hL33_0 ?_
          refine S_dup X dX12_term_34 ?_
          refine S_get (v := iv (sk T n a1)) X fgX12_111_11 0 rfl rfl dX12_term_35 ?_
          refine S_iconst X dX12_term_38 ?_
          refine S_iadd X dX12_term_39 ?_
          refine S_put X fpX12_111_11 0 rfl FT_i dX12_term_40 ?_
          refine S_w (ws' := [(h0, ob 11 (uF (uF (uF f 3 (iv ((sk T n a1) + 1))) 4 (iv (-1))) 5 (iv dp))), (hT, ar 160 T), (hC, ar 1700 (wrL C (340 * tx + k) (List.map kC acc))), (hV, ar 1700 (wrL V (340 * tx + k) (List.map kV acc))), (hN, ar 5 (uZ Nk tx (k + ((acc).length : Int))))]) (by simp only [List.set]; rw [uF_mv (j := 5) (k := 3) (by decide), uF_mv (j := 4) (k := 3) (by decide), uF_same (k := 3)]) ?_
          refine S_aload_n X dX12_term_43 rfl hL33_0 ?_
          refine S_callv X (hat h0 hT f T n ((sk T n a1) + 1) dp hC hV hN (wrL C (340 * tx + k) (List.map kC acc)) (wrL V (340 * tx + k) (List.map kV acc)) Nk tx (k + ((acc).length : Int)) hf0 hf1 hf2 hf3 hf4 hf5 (by omega) (by omega) (by omega) (by omega) (by omega)) (is := [0, 1, 2, 3, 4]) rfl (run_V X lkX12_158 0 rfl rfl (is := [0, 1, 2, 3, 4]) (avs := []) (rest := []) rfl rfl (nle rfl) ⟨by simp only [rmD]; omega, by simp only [rmD]; omega⟩ ⟨nle rfl, nle rfl⟩ dX12_term_44 (by decide) rfl) (fun u_34 hp_35 => ?_)
          rcases hp_35 with ⟨a2_37, fl_38, k2_39, dp2_40, C2_41, V2_42, hu_44, hq_45, hfl_46, hr_47, hfC_48, hfV_49⟩ | ⟨a2_50, ts_51, hu_53, hq_54⟩
          ·
            subst hu_44
            refine ⟨rfl, ?_⟩
            refine S_w (ws' := [(h0, ob 11 (uF (uF (uF f 3 (iv a2_37)) 4 (iv fl_38)) 5 (iv dp2_40))), (hT, ar 160 T), (hC, ar 1700 C2_41), (hV, ar 1700 V2_42), (hN, ar 5 (uZ Nk tx k2_39))]) rfl ?_
            refine S_aload_n X dX12_term_47 rfl hL33_0 ?_
            refine S_iload_n X dX12_term_48 rfl hL33_1 ?_
            refine S_bipush X dX12_term_49 rfl ?_
            refine S_icmp_ne (tgt := 58) X dX12_term_51 (by decide) (by omega) (by decide) (fun c_55 => ?_) (fun c_55 => ?_)
            ·
              refine S_iconst X dX12_term_58 ?_
              refine S_iconst X dX12_term_59 ?_
              refine S_callv X (kX12_put l h0 f a2_37 fl_38 dp2_40 hC hV hN C2_41 V2_42 Nk tx k2_39 5 0 hf2 hf3 hf4 hf5 (by omega) (by omega)) (is := [0, 2, 3, 4]) rfl (run_V X lkX12_140 0 rfl rfl (is := [0, 2, 3, 4]) (avs := [iv 5, iv 0]) (rest := []) rfl rfl (nle rfl) ⟨by simp only [rmD]; omega, by simp only [rmD]; omega⟩ ⟨nle rfl, nle rfl⟩ dX12_term_60 (by decide) rfl) (fun u_56 hp_57 => ?_)
              have hu_60 := hp_57
              subst hu_60
              refine ⟨rfl, ?_⟩
              refine S_w (ws' := [(h0, ob 11 (uF (uF (uF f 3 (iv a2_37)) 4 (iv fl_38)) 5 (iv dp2_40))), (hT, ar 160 T), (hC, ar 1700 (uZ C2_41 (340 * tx + k2_39) 5)), (hV, ar 1700 (uZ V2_42 (340 * tx + k2_39) 0)), (hN, ar 5 (uZ Nk tx (k2_39 + 1)))]) rfl ?_
              refine S_aload_n X dX12_term_63 rfl hL33_0 ?_
              refine S_get (v := iv fl_38) X fgX12_118_11 0 rfl rfl dX12_term_64 ?_
              refine S_iconst X dX12_term_67 ?_
              refine S_icmp_ne (tgt := 78) X dX12_term_68 (by decide) (by omega) (by decide) (fun c_61 => ?_) (fun c_61 => by exfalso; omega)
              refine S_iconst X dX12_term_78 ?_
              refine S_istore_n X dX12_term_79 rfl (nle rfl) ?_
              refine S_goto (tgt := 21) X dX12_term_80 (by decide) ?_
              refine S_iload_n X dX12_term_21 rfl rfl ?_
              refine S_bipush X dX12_term_22 rfl ?_
              refine S_icmp_eq (tgt := 33) X dX12_term_24 (by decide) (by decide) (by decide) (fun h9 => absurd h9 (by decide)) (fun _ => ?_)
              refine S_iload_n X dX12_term_27 rfl rfl ?_
              refine S_bipush X dX12_term_28 rfl ?_
              refine S_icmp_ne (tgt := 83) X dX12_term_30 (by decide) (by decide) (by decide) (fun _ => ?_) (fun h9 => absurd h9 (by decide))
              exact S_vret X (nle rfl) (nle rfl) dX12_term_83 (hPo _ (Or.inl ⟨_, _, _, _, _, _, rfl, hk9.symm.trans (loopL_f (by omega) hq_45), by omega, by omega, by first | exact frm_0 | assumption | exact frm_r (by omega) (by omega) | exact frm_w (by assumption) (by omega) (by omega) | exact frm_p frm_0 (by omega) | exact frm_p (by assumption) (by omega) | exact frm_p (frm_w (by assumption) (by omega) (by omega)) (by omega), by first | exact frm_0 | assumption | exact frm_r (by omega) (by omega) | exact frm_w (by assumption) (by omega) (by omega) | exact frm_p frm_0 (by omega) | exact frm_p (by assumption) (by omega) | exact frm_p (frm_w (by assumption) (by omega) (by omega)) (by omega)⟩))
            ·
              refine S_iconst X dX12_term_54 ?_
              refine S_goto (tgt := 59) X dX12_term_55 (by decide) ?_
              refine S_iconst X dX12_term_59 ?_
              refine S_callv X (kX12_put l h0 f a2_37 fl_38 dp2_40 hC hV hN C2_41 V2_42 Nk tx k2_39 4 0 hf2 hf3 hf4 hf5 (by omega) (by omega)) (is := [0, 2, 3, 4]) rfl (run_V X lkX12_140 0 rfl rfl (is := [0, 2, 3, 4]) (avs := [iv 4, iv 0]) (rest := []) rfl rfl (nle rfl) ⟨by simp only [rmD]; omega, by simp only [rmD]; omega⟩ ⟨nle rfl, nle rfl⟩ dX12_term_60 (by decide) rfl) (fun u_64 hp_65 => ?_)
              have hu_68 := hp_65
              subst hu_68
              refine ⟨rfl, ?_⟩
              refine S_w (ws' := [(h0, ob 11 (uF (uF (uF f 3 (iv a2_37)) 4 (iv fl_38)) 5 (iv dp2_40))), (hT, ar 160 T), (hC, ar 1700 (uZ C2_41 (340 * tx + k2_39) 4)), (hV, ar 1700 (uZ V2_42 (340 * tx + k2_39) 0)), (hN, ar 5 (uZ Nk tx (k2_39 + 1)))]) rfl ?_
              refine S_aload_n X dX12_term_63 rfl hL33_0 ?_
              refine S_get (v := iv fl_38) X fgX12_118_11 0 rfl rfl dX12_term_64 ?_
              refine S_iconst X dX12_term_67 ?_
              refine S_icmp_ne (tgt := 78) X dX12_term_68 (by decide) (by omega) (by decide) (fun c_69 => ?_) (fun c_69 => by exfalso; omega)
              refine S_iconst X dX12_term_78 ?_
              refine S_istore_n X dX12_term_79 rfl (nle rfl) ?_
              refine S_goto (tgt := 21) X dX12_term_80 (by decide) ?_
              refine S_iload_n X dX12_term_21 rfl rfl ?_
              refine S_bipush X dX12_term_22 rfl ?_
              refine S_icmp_eq (tgt := 33) X dX12_term_24 (by decide) (by decide) (by decide) (fun h9 => absurd h9 (by decide)) (fun _ => ?_)
              refine S_iload_n X dX12_term_27 rfl rfl ?_
              refine S_bipush X dX12_term_28 rfl ?_
              refine S_icmp_ne (tgt := 83) X dX12_term_30 (by decide) (by decide) (by decide) (fun _ => ?_) (fun h9 => absurd h9 (by decide))
              exact S_vret X (nle rfl) (nle rfl) dX12_term_83 (hPo _ (Or.inl ⟨_, _, _, _, _, _, rfl, hk9.symm.trans (loopL_f (by omega) hq_45), by omega, by omega, by first | exact frm_0 | assumption | exact frm_r (by omega) (by omega) | exact frm_w (by assumption) (by omega) (by omega) | exact frm_p frm_0 (by omega) | exact frm_p (by assumption) (by omega) | exact frm_p (frm_w (by assumption) (by omega) (by omega)) (by omega), by first | exact frm_0 | assumption | exact frm_r (by omega) (by omega) | exact frm_w (by assumption) (by omega) (by omega) | exact frm_p frm_0 (by omega) | exact frm_p (by assumption) (by omega) | exact frm_p (frm_w (by assumption) (by omega) (by omega)) (by omega)⟩))
          ·
            subst hu_53
            refine ⟨rfl, ?_⟩
            refine S_w (ws' := [(h0, ob 11 (uF (uF (uF f 3 (iv a2_50)) 4 (iv (-1))) 5 (iv dp))), (hT, ar 160 T), (hC, ar 1700 (wrL (wrL C (340 * tx + k) (List.map kC acc)) (340 * tx + (k + ((acc).length : Int))) (List.map kC ts_51))), (hV, ar 1700 (wrL (wrL V (340 * tx + k) (List.map kV acc)) (340 * tx + (k + ((acc).length : Int))) (List.map kV ts_51))), (hN, ar 5 (uZ Nk tx ((k + ((acc).length : Int)) + ((ts_51).length : Int))))]) rfl ?_
            refine S_w (ws' := [(h0, ob 11 (uF (uF (uF f 3 (iv a2_50)) 4 (iv (-1))) 5 (iv dp))), (hT, ar 160 T), (hC, ar 1700 (wrL C (340 * tx + k) (List.map kC (acc ++ ts_51)))), (hV, ar 1700 (wrL V (340 * tx + k) (List.map kV (acc ++ ts_51)))), (hN, ar 5 (uZ Nk tx (k + ((acc ++ ts_51).length : Int))))]) (by simp only [rW_app, rK_app]) ?_
            have ho_72 := ((pAS_ok (T := T) hn1 K).1 (sk T n a1 + 1) (by omega) (by omega)).2 _ hq_54
            dsimp only at ho_72
            have hln_72 : (((acc ++ ts_51).length : Nat) : Int) = _ := congrArg Nat.cast List.length_append
            rw [Int.natCast_add] at hln_72
            refine S_aload_n X dX12_term_47 rfl hL33_0 ?_
            refine S_iload_n X dX12_term_48 rfl hL33_1 ?_
            refine S_bipush X dX12_term_49 rfl ?_
            refine S_icmp_ne (tgt := 58) X dX12_term_51 (by decide) (by omega) (by decide) (fun c_73 => ?_) (fun c_73 => ?_)
            ·
              refine S_iconst X dX12_term_58 ?_
              refine S_iconst X dX12_term_59 ?_
              refine S_callv X (kX12_put l h0 f a2_50 (-1) dp hC hV hN (wrL C (340 * tx + k) (List.map kC (acc ++ ts_51))) (wrL V (340 * tx + k) (List.map kV (acc ++ ts_51))) Nk tx (k + ((acc ++ ts_51).length : Int)) 5 0 hf2 hf3 hf4 hf5 (by omega) (by omega)) (is := [0, 2, 3, 4]) rfl (run_V X lkX12_140 0 rfl rfl (is := [0, 2, 3, 4]) (avs := [iv 5, iv 0]) (rest := []) rfl rfl (nle rfl) ⟨by simp only [rmD]; omega, by simp only [rmD]; omega⟩ ⟨nle rfl, nle rfl⟩ dX12_term_60 (by decide) rfl) (fun u_74 hp_75 => ?_)
              have hu_78 := hp_75
              subst hu_78
              refine ⟨rfl, ?_⟩
              refine S_w (ws' := [(h0, ob 11 (uF (uF (uF f 3 (iv a2_50)) 4 (iv (-1))) 5 (iv dp))), (hT, ar 160 T), (hC, ar 1700 (uZ (wrL C (340 * tx + k) (List.map kC (acc ++ ts_51))) (340 * tx + (k + ((acc ++ ts_51).length : Int))) 5)), (hV, ar 1700 (uZ (wrL V (340 * tx + k) (List.map kV (acc ++ ts_51))) (340 * tx + (k + ((acc ++ ts_51).length : Int))) 0)), (hN, ar 5 (uZ Nk tx ((k + ((acc ++ ts_51).length : Int)) + 1)))]) rfl ?_
              refine S_w (ws' := [(h0, ob 11 (uF (uF (uF f 3 (iv a2_50)) 4 (iv (-1))) 5 (iv dp))), (hT, ar 160 T), (hC, ar 1700 (wrL C (340 * tx + k) (List.map kC (acc ++ ts_51 ++ [-47])))), (hV, ar 1700 (wrL V (340 * tx + k) (List.map kV (acc ++ ts_51 ++ [-47])))), (hN, ar 5 (uZ Nk tx (k + ((acc ++ ts_51 ++ [-47]).length : Int))))]) (by rw [rW_put (g := kC) (c0 := 5) (-47) rfl, rW_put (g := kV) (c0 := 0) (-47) rfl, rK_put (-47)]) ?_
              have hln_79 : (((acc ++ ts_51 ++ [-47]).length : Nat) : Int) = _ := congrArg Nat.cast List.length_append
              rw [Int.natCast_add, List.length_singleton] at hln_79
              have hkk_80 := (lpS (f := g9) (acc := acc) (show ch T n (sk T n a1) = 47 by omega) (by omega) hq_54).symm.trans hk9
              refine S_aload_n X dX12_term_63 rfl hL33_0 ?_
              refine S_get (v := iv (-1)) X fgX12_118_11 0 rfl rfl dX12_term_64 ?_
              refine S_iconst X dX12_term_67 ?_
              refine S_icmp_ne (tgt := 78) X dX12_term_68 (by decide) (by decide) (by decide) (fun h9 => absurd h9 (by decide)) (fun _ => ?_)
              refine S_aload_n X dX12_term_71 rfl hL33_0 ?_
              refine S_calli X (kX12_look l h0 hT f T n a2_50 (-1) dp hf0 hf1 (by omega) (by omega)) (is := [0, 1]) rfl (run_V X lkX12_130 0 rfl rfl (is := [0, 1]) (avs := []) (rest := []) rfl rfl (nle rfl) ⟨by simp only [rmD]; omega, by simp only [rmD]; omega⟩ ⟨nle rfl, nle rfl⟩ dX12_term_72 (by decide) rfl) (fun z_84 u_82 hp_83 => ?_)
              obtain ⟨hz_85, hu_86⟩ := hp_83
              subst hz_85
              subst hu_86
              refine ⟨rfl, ?_⟩
              refine S_w (ws' := [(h0, ob 11 (uF (uF (uF f 3 (iv (sk T n a2_50))) 4 (iv (-1))) 5 (iv dp))), (hT, ar 160 T), (hC, ar 1700 (wrL C (340 * tx + k) (List.map kC (acc ++ ts_51 ++ [-47])))), (hV, ar 1700 (wrL V (340 * tx + k) (List.map kV (acc ++ ts_51 ++ [-47])))), (hN, ar 5 (uZ Nk tx (k + ((acc ++ ts_51 ++ [-47]).length : Int))))]) rfl ?_
              have hsk_87 := sk_in (T := T) (n := n) (a := a2_50) (by omega)
              have hcm_87 := chM_or okT (a := sk T n a2_50) (by omega) (by omega)
              refine S_goto (tgt := 79) X dX12_term_75 (by decide) ?_
              refine S_istore_n X dX12_term_79 rfl (nle rfl) ?_
              refine S_goto (tgt := 21) X dX12_term_80 (by decide) ?_
              refine S_iload_n X dX12_term_21 rfl rfl ?_
              refine S_bipush X dX12_term_22 rfl ?_
              refine S_icmp_eq (tgt := 33) X dX12_term_24 (by decide) (by omega) (by decide) (fun c_88 => ?_) (fun c_88 => ?_)
              ·
                exact ih33 a2_50 (chM T n (sk T n a2_50)) (acc ++ ts_51 ++ [-47]) _ (by omega) (by omega) (by omega) (⟨g9, by omega, hkk_80⟩) hL33_0 rfl (by omega)
              ·
                refine S_iload_n X dX12_term_27 rfl rfl ?_
                refine S_bipush X dX12_term_28 rfl ?_
                refine S_icmp_ne (tgt := 83) X dX12_term_30 (by decide) (by omega) (by decide) (fun c_89 => ?_) (fun c_89 => ?_)
                ·
                  exact S_vret X (nle rfl) (nle rfl) dX12_term_83 (hPo _ (Or.inr ⟨_, _, rfl, hkk_80.symm.trans (lpE (by omega) (by omega))⟩))
                ·
                  exact ih33 a2_50 (chM T n (sk T n a2_50)) (acc ++ ts_51 ++ [-47]) _ (by omega) (by omega) (by omega) (⟨g9, by omega, hkk_80⟩) hL33_0 rfl (by omega)
            ·
              refine S_iconst X dX12_term_54 ?_
              refine S_goto (tgt := 59) X dX12_term_55 (by decide) ?_
              refine S_iconst X dX12_term_59 ?_
              refine S_callv X (kX12_put l h0 f a2_50 (-1) dp hC hV hN (wrL C (340 * tx + k) (List.map kC (acc ++ ts_51))) (wrL V (340 * tx + k) (List.map kV (acc ++ ts_51))) Nk tx (k + ((acc ++ ts_51).length : Int)) 4 0 hf2 hf3 hf4 hf5 (by omega) (by omega)) (is := [0, 2, 3, 4]) rfl (run_V X lkX12_140 0 rfl rfl (is := [0, 2, 3, 4]) (avs := [iv 4, iv 0]) (rest := []) rfl rfl (nle rfl) ⟨by simp only [rmD]; omega, by simp only [rmD]; omega⟩ ⟨nle rfl, nle rfl⟩ dX12_term_60 (by decide) rfl) (fun u_90 hp_91 => ?_)
              have hu_94 := hp_91
              subst hu_94
              refine ⟨rfl, ?_⟩
              refine S_w (ws' := [(h0, ob 11 (uF (uF (uF f 3 (iv a2_50)) 4 (iv (-1))) 5 (iv dp))), (hT, ar 160 T), (hC, ar 1700 (uZ (wrL C (340 * tx + k) (List.map kC (acc ++ ts_51))) (340 * tx + (k + ((acc ++ ts_51).length : Int))) 4)), (hV, ar 1700 (uZ (wrL V (340 * tx + k) (List.map kV (acc ++ ts_51))) (340 * tx + (k + ((acc ++ ts_51).length : Int))) 0)), (hN, ar 5 (uZ Nk tx ((k + ((acc ++ ts_51).length : Int)) + 1)))]) rfl ?_
              refine S_w (ws' := [(h0, ob 11 (uF (uF (uF f 3 (iv a2_50)) 4 (iv (-1))) 5 (iv dp))), (hT, ar 160 T), (hC, ar 1700 (wrL C (340 * tx + k) (List.map kC (acc ++ ts_51 ++ [-42])))), (hV, ar 1700 (wrL V (340 * tx + k) (List.map kV (acc ++ ts_51 ++ [-42])))), (hN, ar 5 (uZ Nk tx (k + ((acc ++ ts_51 ++ [-42]).length : Int))))]) (by rw [rW_put (g := kC) (c0 := 4) (-42) rfl, rW_put (g := kV) (c0 := 0) (-42) rfl, rK_put (-42)]) ?_
              have hln_95 : (((acc ++ ts_51 ++ [-42]).length : Nat) : Int) = _ := congrArg Nat.cast List.length_append
              rw [Int.natCast_add, List.length_singleton] at hln_95
              have hkk_96 := (lpS (f := g9) (acc := acc) (show ch T n (sk T n a1) = 42 by omega) (by omega) hq_54).symm.trans hk9
              refine S_aload_n X dX12_term_63 rfl hL33_0 ?_
              refine S_get (v := iv (-1)) X fgX12_118_11 0 rfl rfl dX12_term_64 ?_
              refine S_iconst X dX12_term_67 ?_
              refine S_icmp_ne (tgt := 78) X dX12_term_68 (by decide) (by decide) (by decide) (fun h9 => absurd h9 (by decide)) (fun _ => ?_)
              refine S_aload_n X dX12_term_71 rfl hL33_0 ?_
              refine S_calli X (kX12_look l h0 hT f T n a2_50 (-1) dp hf0 hf1 (by omega) (by omega)) (is := [0, 1]) rfl (run_V X lkX12_130 0 rfl rfl (is := [0, 1]) (avs := []) (rest := []) rfl rfl (nle rfl) ⟨by simp only [rmD]; omega, by simp only [rmD]; omega⟩ ⟨nle rfl, nle rfl⟩ dX12_term_72 (by decide) rfl) (fun z_100 u_98 hp_99 => ?_)
              obtain ⟨hz_101, hu_102⟩ := hp_99
              subst hz_101
              subst hu_102
              refine ⟨rfl, ?_⟩
              refine S_w (ws' := [(h0, ob 11 (uF (uF (uF f 3 (iv (sk T n a2_50))) 4 (iv (-1))) 5 (iv dp))), (hT, ar 160 T), (hC, ar 1700 (wrL C (340 * tx + k) (List.map kC (acc ++ ts_51 ++ [-42])))), (hV, ar 1700 (wrL V (340 * tx + k) (List.map kV (acc ++ ts_51 ++ [-42])))), (hN, ar 5 (uZ Nk tx (k + ((acc ++ ts_51 ++ [-42]).length : Int))))]) rfl ?_
              have hsk_103 := sk_in (T := T) (n := n) (a := a2_50) (by omega)
              have hcm_103 := chM_or okT (a := sk T n a2_50) (by omega) (by omega)
              refine S_goto (tgt := 79) X dX12_term_75 (by decide) ?_
              refine S_istore_n X dX12_term_79 rfl (nle rfl) ?_
              refine S_goto (tgt := 21) X dX12_term_80 (by decide) ?_
              refine S_iload_n X dX12_term_21 rfl rfl ?_
              refine S_bipush X dX12_term_22 rfl ?_
              refine S_icmp_eq (tgt := 33) X dX12_term_24 (by decide) (by omega) (by decide) (fun c_104 => ?_) (fun c_104 => ?_)
              ·
                exact ih33 a2_50 (chM T n (sk T n a2_50)) (acc ++ ts_51 ++ [-42]) _ (by omega) (by omega) (by omega) (⟨g9, by omega, hkk_96⟩) hL33_0 rfl (by omega)
              ·
                refine S_iload_n X dX12_term_27 rfl rfl ?_
                refine S_bipush X dX12_term_28 rfl ?_
                refine S_icmp_ne (tgt := 83) X dX12_term_30 (by decide) (by omega) (by decide) (fun c_105 => ?_) (fun c_105 => ?_)
                ·
                  exact S_vret X (nle rfl) (nle rfl) dX12_term_83 (hPo _ (Or.inr ⟨_, _, rfl, hkk_96.symm.trans (lpE (by omega) (by omega))⟩))
                ·
                  exact ih33 a2_50 (chM T n (sk T n a2_50)) (acc ++ ts_51 ++ [-42]) _ (by omega) (by omega) (by omega) (⟨g9, by omega, hkk_96⟩) hL33_0 rfl (by omega)
      exact lp33_2 (Int.toNat (161 - a2_17) + 1) a2_17 (chM T n (sk T n a2_17)) ts_18 _ (by omega) (by omega) (by omega) (⟨161, by omega, (seqG_r hq_21).symm⟩) rfl rfl (by omega)
    ·
      refine S_iload_n X dX12_term_27 rfl rfl ?_
      refine S_bipush X dX12_term_28 rfl ?_
      refine S_icmp_ne (tgt := 83) X dX12_term_30 (by decide) (by omega) (by decide) (fun c_106 => ?_) (fun c_106 => ?_)
      ·
        exact S_vret X (nle rfl) (nle rfl) dX12_term_83 (hPo _ (Or.inr ⟨_, _, rfl, (seqG_r hq_21).trans (lpE (by omega) (by omega))⟩))
      ·
        have lp33_3 : ∀ (N : Nat) (a1 : Int) (c1 : Int) (acc : List Int) (L : Nat → Option AV), a < a1 ∧ a1 ≤ n → c1 = chM T n (sk T n a1) ∧ (c1 = 42 ∨ c1 = 47) → (acc.length : Int) ≤ a1 - a → (∃ f : Nat, 161 - a1 ≤ f ∧ loopL T n 42 47 (pAtom T n K) f a1 acc = pTerm T n K a) → L 0 = some (rv h0) → L 1 = some (iv c1) → 161 - a1 < (N : Int) → S_ p l e (rmD (d + 1) 0 0) s m args below meth c (MQ below (QcV D G A Po) args s 0 0 A) D G A 2 0 0 33 L [] [(h0, ob 11 (uF (uF (uF f 3 (iv (sk T n a1))) 4 (iv (-1))) 5 (iv dp))), (hT, ar 160 T), (hC, ar 1700 (wrL C (340 * tx + k) (List.map kC acc))), (hV, ar 1700 (wrL V (340 * tx + k) (List.map kV acc))), (hN, ar 5 (uZ Nk tx (k + ((acc).length : Int))))] := by
          intro N
          induction N with
          | zero =>
            intro a1 c1 acc L33 hi hc1 hbd hkl hL33_0 hL33_1 hN33
            exfalso; omega
          | succ N ih33 =>
            intro a1 c1 acc L33 hi hc1 hbd hkl hL33_0 hL33_1 hN33
            obtain ⟨f9, hf9, hk9⟩ := hkl
            obtain ⟨g9, rfl⟩ : ∃ g, f9 = g + 1 := ⟨f9 - 1, by omega⟩
            have hsk1 := sk_in (T := T) (n := n) (a := a1) (by omega)
            have hcm1 := chM_or okT (a := sk T n a1) (by omega) (by omega)
            refine S_aload_n X dX12_term_33 rfl hL33_0 ?_
            refine S_dup X dX12_term_34 ?_
            refine S_get (v := iv (sk T n a1)) X fgX12_111_11 0 rfl rfl dX12_term_35 ?_
            refine S_iconst X dX12_term_38 ?_
            refine S_iadd X dX12_term_39 ?_
            refine S_put X fpX12_111_11 0 rfl FT_i dX12_term_40 ?_
            refine S_w (ws' := [(h0, ob 11 (uF (uF (uF f 3 (iv ((sk T n a1) + 1))) 4 (iv (-1))) 5 (iv dp))), (hT, ar 160 T), (hC, ar 1700 (wrL C (340 * tx + k) (List.map kC acc))), (hV, ar 1700 (wrL V (340 * tx + k) (List.map kV acc))), (hN, ar 5 (uZ Nk tx (k + ((acc).length : Int))))]) (by simp only [List.set]; rw [uF_mv (j := 5) (k := 3) (by decide), uF_mv (j := 4) (k := 3) (by decide), uF_same (k := 3)]) ?_
            refine S_aload_n X dX12_term_43 rfl hL33_0 ?_
            refine S_callv X (hat h0 hT f T n ((sk T n a1) + 1) dp hC hV hN (wrL C (340 * tx + k) (List.map kC acc)) (wrL V (340 * tx + k) (List.map kV acc)) Nk tx (k + ((acc).length : Int)) hf0 hf1 hf2 hf3 hf4 hf5 (by omega) (by omega) (by omega) (by omega) (by omega)) (is := [0, 1, 2, 3, 4]) rfl (run_V X lkX12_158 0 rfl rfl (is := [0, 1, 2, 3, 4]) (avs := []) (rest := []) rfl rfl (nle rfl) ⟨by simp only [rmD]; omega, by simp only [rmD]; omega⟩ ⟨nle rfl, nle rfl⟩ dX12_term_44 (by decide) rfl) (fun u_107 hp_108 => ?_)
            rcases hp_108 with ⟨a2_110, fl_111, k2_112, dp2_113, C2_114, V2_115, hu_117, hq_118, hfl_119, hr_120, hfC_121, hfV_122⟩ | ⟨a2_123, ts_124, hu_126, hq_127⟩
            ·
              subst hu_117
              refine ⟨rfl, ?_⟩
              refine S_w (ws' := [(h0, ob 11 (uF (uF (uF f 3 (iv a2_110)) 4 (iv fl_111)) 5 (iv dp2_113))), (hT, ar 160 T), (hC, ar 1700 C2_114), (hV, ar 1700 V2_115), (hN, ar 5 (uZ Nk tx k2_112))]) rfl ?_
              refine S_aload_n X dX12_term_47 rfl hL33_0 ?_
              refine S_iload_n X dX12_term_48 rfl hL33_1 ?_
              refine S_bipush X dX12_term_49 rfl ?_
              refine S_icmp_ne (tgt := 58) X dX12_term_51 (by decide) (by omega) (by decide) (fun c_128 => ?_) (fun c_128 => ?_)
              ·
                refine S_iconst X dX12_term_58 ?_
                refine S_iconst X dX12_term_59 ?_
                refine S_callv X (kX12_put l h0 f a2_110 fl_111 dp2_113 hC hV hN C2_114 V2_115 Nk tx k2_112 5 0 hf2 hf3 hf4 hf5 (by omega) (by omega)) (is := [0, 2, 3, 4]) rfl (run_V X lkX12_140 0 rfl rfl (is := [0, 2, 3, 4]) (avs := [iv 5, iv 0]) (rest := []) rfl rfl (nle rfl) ⟨by simp only [rmD]; omega, by simp only [rmD]; omega⟩ ⟨nle rfl, nle rfl⟩ dX12_term_60 (by decide) rfl) (fun u_129 hp_130 => ?_)
                have hu_133 := hp_130
                subst hu_133
                refine ⟨rfl, ?_⟩
                refine S_w (ws' := [(h0, ob 11 (uF (uF (uF f 3 (iv a2_110)) 4 (iv fl_111)) 5 (iv dp2_113))), (hT, ar 160 T), (hC, ar 1700 (uZ C2_114 (340 * tx + k2_112) 5)), (hV, ar 1700 (uZ V2_115 (340 * tx + k2_112) 0)), (hN, ar 5 (uZ Nk tx (k2_112 + 1)))]) rfl ?_
                refine S_aload_n X dX12_term_63 rfl hL33_0 ?_
                refine S_get (v := iv fl_111) X fgX12_118_11 0 rfl rfl dX12_term_64 ?_
                refine S_iconst X dX12_term_67 ?_
                refine S_icmp_ne (tgt := 78) X dX12_term_68 (by decide) (by omega) (by decide) (fun c_134 => ?_) (fun c_134 => by exfalso; omega)
                refine S_iconst X dX12_term_78 ?_
                refine S_istore_n X dX12_term_79 rfl (nle rfl) ?_
                refine S_goto (tgt := 21) X dX12_term_80 (by decide) ?_
                refine S_iload_n X dX12_term_21 rfl rfl ?_
                refine S_bipush X dX12_term_22 rfl ?_
                refine S_icmp_eq (tgt := 33) X dX12_term_24 (by decide) (by decide) (by decide) (fun h9 => absurd h9 (by decide)) (fun _ => ?_)
                refine S_iload_n X dX12_term_27 rfl rfl ?_
                refine S_bipush X dX12_term_28 rfl ?_
                refine S_icmp_ne (tgt := 83) X dX12_term_30 (by decide) (by decide) (by decide) (fun _ => ?_) (fun h9 => absurd h9 (by decide))
                exact S_vret X (nle rfl) (nle rfl) dX12_term_83 (hPo _ (Or.inl ⟨_, _, _, _, _, _, rfl, hk9.symm.trans (loopL_f (by omega) hq_118), by omega, by omega, by first | exact frm_0 | assumption | exact frm_r (by omega) (by omega) | exact frm_w (by assumption) (by omega) (by omega) | exact frm_p frm_0 (by omega) | exact frm_p (by assumption) (by omega) | exact frm_p (frm_w (by assumption) (by omega) (by omega)) (by omega), by first | exact frm_0 | assumption | exact frm_r (by omega) (by omega) | exact frm_w (by assumption) (by omega) (by omega) | exact frm_p frm_0 (by omega) | exact frm_p (by assumption) (by omega) | exact frm_p (frm_w (by assumption) (by omega) (by omega)) (by omega)⟩))
              ·
                refine S_iconst X dX12_term_54 ?_
                refine S_goto (tgt := 59) X dX12_term_55 (by decide) ?_
                refine S_iconst X dX12_term_59 ?_
                refine S_callv X (kX12_put l h0 f a2_110 fl_111 dp2_113 hC hV hN C2_114 V2_115 Nk tx k2_112 4 0 hf2 hf3 hf4 hf5 (by omega) (by omega)) (is := [0, 2, 3, 4]) rfl (run_V X lkX12_140 0 rfl rfl (is := [0, 2, 3, 4]) (avs := [iv 4, iv 0]) (rest := []) rfl rfl (nle rfl) ⟨by simp only [rmD]; omega, by simp only [rmD]; omega⟩ ⟨nle rfl, nle rfl⟩ dX12_term_60 (by decide) rfl) (fun u_137 hp_138 => ?_)
                have hu_141 := hp_138
                subst hu_141
                refine ⟨rfl, ?_⟩
                refine S_w (ws' := [(h0, ob 11 (uF (uF (uF f 3 (iv a2_110)) 4 (iv fl_111)) 5 (iv dp2_113))), (hT, ar 160 T), (hC, ar 1700 (uZ C2_114 (340 * tx + k2_112) 4)), (hV, ar 1700 (uZ V2_115 (340 * tx + k2_112) 0)), (hN, ar 5 (uZ Nk tx (k2_112 + 1)))]) rfl ?_
                refine S_aload_n X dX12_term_63 rfl hL33_0 ?_
                refine S_get (v := iv fl_111) X fgX12_118_11 0 rfl rfl dX12_term_64 ?_
                refine S_iconst X dX12_term_67 ?_
                refine S_icmp_ne (tgt := 78) X dX12_term_68 (by decide) (by omega) (by decide) (fun c_142 => ?_) (fun c_142 => by exfalso; omega)
                refine S_iconst X dX12_term_78 ?_
                refine S_istore_n X dX12_term_79 rfl (nle rfl) ?_
                refine S_goto (tgt := 21) X dX12_term_80 (by decide) ?_
                refine S_iload_n X dX12_term_21 rfl rfl ?_
                refine S_bipush X dX12_term_22 rfl ?_
                refine S_icmp_eq (tgt := 33) X dX12_term_24 (by decide) (by decide) (by decide) (fun h9 => absurd h9 (by decide)) (fun _ => ?_)
                refine S_iload_n X dX12_term_27 rfl rfl ?_
                refine S_bipush X dX12_term_28 rfl ?_
                refine S_icmp_ne (tgt := 83) X dX12_term_30 (by decide) (by decide) (by decide) (fun _ => ?_) (fun h9 => absurd h9 (by decide))
                exact S_vret X (nle rfl) (nle rfl) dX12_term_83 (hPo _ (Or.inl ⟨_, _, _, _, _, _, rfl, hk9.symm.trans (loopL_f (by omega) hq_118), by omega, by omega, by first | exact frm_0 | assumption | exact frm_r (by omega) (by omega) | exact frm_w (by assumption) (by omega) (by omega) | exact frm_p frm_0 (by omega) | exact frm_p (by assumption) (by omega) | exact frm_p (frm_w (by assumption) (by omega) (by omega)) (by omega), by first | exact frm_0 | assumption | exact frm_r (by omega) (by omega) | exact frm_w (by assumption) (by omega) (by omega) | exact frm_p frm_0 (by omega) | exact frm_p (by assumption) (by omega) | exact frm_p (frm_w (by assumption) (by omega) (by omega)) (by omega)⟩))
            ·
              subst hu_126
              refine ⟨rfl, ?_⟩
              refine S_w (ws' := [(h0, ob 11 (uF (uF (uF f 3 (iv a2_123)) 4 (iv (-1))) 5 (iv dp))), (hT, ar 160 T), (hC, ar 1700 (wrL (wrL C (340 * tx + k) (List.map kC acc)) (340 * tx + (k + ((acc).length : Int))) (List.map kC ts_124))), (hV, ar 1700 (wrL (wrL V (340 * tx + k) (List.map kV acc)) (340 * tx + (k + ((acc).length : Int))) (List.map kV ts_124))), (hN, ar 5 (uZ Nk tx ((k + ((acc).length : Int)) + ((ts_124).length : Int))))]) rfl ?_
              refine S_w (ws' := [(h0, ob 11 (uF (uF (uF f 3 (iv a2_123)) 4 (iv (-1))) 5 (iv dp))), (hT, ar 160 T), (hC, ar 1700 (wrL C (340 * tx + k) (List.map kC (acc ++ ts_124)))), (hV, ar 1700 (wrL V (340 * tx + k) (List.map kV (acc ++ ts_124)))), (hN, ar 5 (uZ Nk tx (k + ((acc ++ ts_124).length : Int))))]) (by simp only [rW_app, rK_app]) ?_
              have ho_145 := ((pAS_ok (T := T) hn1 K).1 (sk T n a1 + 1) (by omega) (by omega)).2 _ hq_127
              dsimp only at ho_145
              have hln_145 : (((acc ++ ts_124).length : Nat) : Int) = _ := congrArg Nat.cast List.length_append
              rw [Int.natCast_add] at hln_145
              refine S_aload_n X dX12_term_47 rfl hL33_0 ?_
              refine S_iload_n X dX12_term_48 rfl hL33_1 ?_
              refine S_bipush X dX12_term_49 rfl ?_
              refine S_icmp_ne (tgt := 58) X dX12_term_51 (by decide) (by omega) (by decide) (fun c_146 => ?_) (fun c_146 => ?_)
              ·
                refine S_iconst X dX12_term_58 ?_
                refine S_iconst X dX12_term_59 ?_
                refine S_callv X (kX12_put l h0 f a2_123 (-1) dp hC hV hN (wrL C (340 * tx + k) (List.map kC (acc ++ ts_124))) (wrL V (340 * tx + k) (List.map kV (acc ++ ts_124))) Nk tx (k + ((acc ++ ts_124).length : Int)) 5 0 hf2 hf3 hf4 hf5 (by omega) (by omega)) (is := [0, 2, 3, 4]) rfl (run_V X lkX12_140 0 rfl rfl (is := [0, 2, 3, 4]) (avs := [iv 5, iv 0]) (rest := []) rfl rfl (nle rfl) ⟨by simp only [rmD]; omega, by simp only [rmD]; omega⟩ ⟨nle rfl, nle rfl⟩ dX12_term_60 (by decide) rfl) (fun u_147 hp_148 => ?_)
                have hu_151 := hp_148
                subst hu_151
                refine ⟨rfl, ?_⟩
                refine S_w (ws' := [(h0, ob 11 (uF (uF (uF f 3 (iv a2_123)) 4 (iv (-1))) 5 (iv dp))), (hT, ar 160 T), (hC, ar 1700 (uZ (wrL C (340 * tx + k) (List.map kC (acc ++ ts_124))) (340 * tx + (k + ((acc ++ ts_124).length : Int))) 5)), (hV, ar 1700 (uZ (wrL V (340 * tx + k) (List.map kV (acc ++ ts_124))) (340 * tx + (k + ((acc ++ ts_124).length : Int))) 0)), (hN, ar 5 (uZ Nk tx ((k + ((acc ++ ts_124).length : Int)) + 1)))]) rfl ?_
                refine S_w (ws' := [(h0, ob 11 (uF (uF (uF f 3 (iv a2_123)) 4 (iv (-1))) 5 (iv dp))), (hT, ar 160 T), (hC, ar 1700 (wrL C (340 * tx + k) (List.map kC (acc ++ ts_124 ++ [-47])))), (hV, ar 1700 (wrL V (340 * tx + k) (List.map kV (acc ++ ts_124 ++ [-47])))), (hN, ar 5 (uZ Nk tx (k + ((acc ++ ts_124 ++ [-47]).length : Int))))]) (by rw [rW_put (g := kC) (c0 := 5) (-47) rfl, rW_put (g := kV) (c0 := 0) (-47) rfl, rK_put (-47)]) ?_
                have hln_152 : (((acc ++ ts_124 ++ [-47]).length : Nat) : Int) = _ := congrArg Nat.cast List.length_append
                rw [Int.natCast_add, List.length_singleton] at hln_152
                have hkk_153 := (lpS (f := g9) (acc := acc) (show ch T n (sk T n a1) = 47 by omega) (by omega) hq_127).symm.trans hk9
                refine S_aload_n X dX12_term_63 rfl hL33_0 ?_
                refine S_get (v := iv (-1)) X fgX12_118_11 0 rfl rfl dX12_term_64 ?_
                refine S_iconst X dX12_term_67 ?_
                refine S_icmp_ne (tgt := 78) X dX12_term_68 (by decide) (by decide) (by decide) (fun h9 => absurd h9 (by decide)) (fun _ => ?_)
                refine S_aload_n X dX12_term_71 rfl hL33_0 ?_
                refine S_calli X (kX12_look l h0 hT f T n a2_123 (-1) dp hf0 hf1 (by omega) (by omega)) (is := [0, 1]) rfl (run_V X lkX12_130 0 rfl rfl (is := [0, 1]) (avs := []) (rest := []) rfl rfl (nle rfl) ⟨by simp only [rmD]; omega, by simp only [rmD]; omega⟩ ⟨nle rfl, nle rfl⟩ dX12_term_72 (by decide) rfl) (fun z_157 u_155 hp_156 => ?_)
                obtain ⟨hz_158, hu_159⟩ := hp_156
                subst hz_158
                subst hu_159
                refine ⟨rfl, ?_⟩
                refine S_w (ws' := [(h0, ob 11 (uF (uF (uF f 3 (iv (sk T n a2_123))) 4 (iv (-1))) 5 (iv dp))), (hT, ar 160 T), (hC, ar 1700 (wrL C (340 * tx + k) (List.map kC (acc ++ ts_124 ++ [-47])))), (hV, ar 1700 (wrL V (340 * tx + k) (List.map kV (acc ++ ts_124 ++ [-47])))), (hN, ar 5 (uZ Nk tx (k + ((acc ++ ts_124 ++ [-47]).length : Int))))]) rfl ?_
                have hsk_160 := sk_in (T := T) (n := n) (a := a2_123) (by omega)
                have hcm_160 := chM_or okT (a := sk T n a2_123) (by omega) (by omega)
                refine S_goto (tgt := 79) X dX12_term_75 (by decide) ?_
                refine S_istore_n X dX12_term_79 rfl (nle rfl) ?_
                refine S_goto (tgt := 21) X dX12_term_80 (by decide) ?_
                refine S_iload_n X dX12_term_21 rfl rfl ?_
                refine S_bipush X dX12_term_22 rfl ?_
                refine S_icmp_eq (tgt := 33) X dX12_term_24 (by decide) (by omega) (by decide) (fun c_161 => ?_) (fun c_161 => ?_)
                ·
                  exact ih33 a2_123 (chM T n (sk T n a2_123)) (acc ++ ts_124 ++ [-47]) _ (by omega) (by omega) (by omega) (⟨g9, by omega, hkk_153⟩) hL33_0 rfl (by omega)
                ·
                  refine S_iload_n X dX12_term_27 rfl rfl ?_
                  refine S_bipush X dX12_term_28 rfl ?_
                  refine S_icmp_ne (tgt := 83) X dX12_term_30 (by decide) (by omega) (by decide) (fun c_162 => ?_) (fun c_162 => ?_)
                  ·
                    exact S_vret X (nle rfl) (nle rfl) dX12_term_83 (hPo _ (Or.inr ⟨_, _, rfl, hkk_153.symm.trans (lpE (by omega) (by omega))⟩))
                  ·
                    exact ih33 a2_123 (chM T n (sk T n a2_123)) (acc ++ ts_124 ++ [-47]) _ (by omega) (by omega) (by omega) (⟨g9, by omega, hkk_153⟩) hL33_0 rfl (by omega)
              ·
                refine S_iconst X dX12_term_54 ?_
                refine S_goto (tgt := 59) X dX12_term_55 (by decide) ?_
                refine S_iconst X dX12_term_59 ?_
                refine S_callv X (kX12_put l h0 f a2_123 (-1) dp hC hV hN (wrL C (340 * tx + k) (List.map kC (acc ++ ts_124))) (wrL V (340 * tx + k) (List.map kV (acc ++ ts_124))) Nk tx (k + ((acc ++ ts_124).length : Int)) 4 0 hf2 hf3 hf4 hf5 (by omega) (by omega)) (is := [0, 2, 3, 4]) rfl (run_V X lkX12_140 0 rfl rfl (is := [0, 2, 3, 4]) (avs := [iv 4, iv 0]) (rest := []) rfl rfl (nle rfl) ⟨by simp only [rmD]; omega, by simp only [rmD]; omega⟩ ⟨nle rfl, nle rfl⟩ dX12_term_60 (by decide) rfl) (fun u_163 hp_164 => ?_)
                have hu_167 := hp_164
                subst hu_167
                refine ⟨rfl, ?_⟩
                refine S_w (ws' := [(h0, ob 11 (uF (uF (uF f 3 (iv a2_123)) 4 (iv (-1))) 5 (iv dp))), (hT, ar 160 T), (hC, ar 1700 (uZ (wrL C (340 * tx + k) (List.map kC (acc ++ ts_124))) (340 * tx + (k + ((acc ++ ts_124).length : Int))) 4)), (hV, ar 1700 (uZ (wrL V (340 * tx + k) (List.map kV (acc ++ ts_124))) (340 * tx + (k + ((acc ++ ts_124).length : Int))) 0)), (hN, ar 5 (uZ Nk tx ((k + ((acc ++ ts_124).length : Int)) + 1)))]) rfl ?_
                refine S_w (ws' := [(h0, ob 11 (uF (uF (uF f 3 (iv a2_123)) 4 (iv (-1))) 5 (iv dp))), (hT, ar 160 T), (hC, ar 1700 (wrL C (340 * tx + k) (List.map kC (acc ++ ts_124 ++ [-42])))), (hV, ar 1700 (wrL V (340 * tx + k) (List.map kV (acc ++ ts_124 ++ [-42])))), (hN, ar 5 (uZ Nk tx (k + ((acc ++ ts_124 ++ [-42]).length : Int))))]) (by rw [rW_put (g := kC) (c0 := 4) (-42) rfl, rW_put (g := kV) (c0 := 0) (-42) rfl, rK_put (-42)]) ?_
                have hln_168 : (((acc ++ ts_124 ++ [-42]).length : Nat) : Int) = _ := congrArg Nat.cast List.length_append
                rw [Int.natCast_add, List.length_singleton] at hln_168
                have hkk_169 := (lpS (f := g9) (acc := acc) (show ch T n (sk T n a1) = 42 by omega) (by omega) hq_127).symm.trans hk9
                refine S_aload_n X dX12_term_63 rfl hL33_0 ?_
                refine S_get (v := iv (-1)) X fgX12_118_11 0 rfl rfl dX12_term_64 ?_
                refine S_iconst X dX12_term_67 ?_
                refine S_icmp_ne (tgt := 78) X dX12_term_68 (by decide) (by decide) (by decide) (fun h9 => absurd h9 (by decide)) (fun _ => ?_)
                refine S_aload_n X dX12_term_71 rfl hL33_0 ?_
                refine S_calli X (kX12_look l h0 hT f T n a2_123 (-1) dp hf0 hf1 (by omega) (by omega)) (is := [0, 1]) rfl (run_V X lkX12_130 0 rfl rfl (is := [0, 1]) (avs := []) (rest := []) rfl rfl (nle rfl) ⟨by simp only [rmD]; omega, by simp only [rmD]; omega⟩ ⟨nle rfl, nle rfl⟩ dX12_term_72 (by decide) rfl) (fun z_173 u_171 hp_172 => ?_)
                obtain ⟨hz_174, hu_175⟩ := hp_172
                subst hz_174
                subst hu_175
                refine ⟨rfl, ?_⟩
                refine S_w (ws' := [(h0, ob 11 (uF (uF (uF f 3 (iv (sk T n a2_123))) 4 (iv (-1))) 5 (iv dp))), (hT, ar 160 T), (hC, ar 1700 (wrL C (340 * tx + k) (List.map kC (acc ++ ts_124 ++ [-42])))), (hV, ar 1700 (wrL V (340 * tx + k) (List.map kV (acc ++ ts_124 ++ [-42])))), (hN, ar 5 (uZ Nk tx (k + ((acc ++ ts_124 ++ [-42]).length : Int))))]) rfl ?_
                have hsk_176 := sk_in (T := T) (n := n) (a := a2_123) (by omega)
                have hcm_176 := chM_or okT (a := sk T n a2_123) (by omega) (by omega)
                refine S_goto (tgt := 79) X dX12_term_75 (by decide) ?_
                refine S_istore_n X dX12_term_79 rfl (nle rfl) ?_
                refine S_goto (tgt := 21) X dX12_term_80 (by decide) ?_
                refine S_iload_n X dX12_term_21 rfl rfl ?_
                refine S_bipush X dX12_term_22 rfl ?_
                refine S_icmp_eq (tgt := 33) X dX12_term_24 (by decide) (by omega) (by decide) (fun c_177 => ?_) (fun c_177 => ?_)
                ·
                  exact ih33 a2_123 (chM T n (sk T n a2_123)) (acc ++ ts_124 ++ [-42]) _ (by omega) (by omega) (by omega) (⟨g9, by omega, hkk_169⟩) hL33_0 rfl (by omega)
                ·
                  refine S_iload_n X dX12_term_27 rfl rfl ?_
                  refine S_bipush X dX12_term_28 rfl ?_
                  refine S_icmp_ne (tgt := 83) X dX12_term_30 (by decide) (by omega) (by decide) (fun c_178 => ?_) (fun c_178 => ?_)
                  ·
                    exact S_vret X (nle rfl) (nle rfl) dX12_term_83 (hPo _ (Or.inr ⟨_, _, rfl, hkk_169.symm.trans (lpE (by omega) (by omega))⟩))
                  ·
                    exact ih33 a2_123 (chM T n (sk T n a2_123)) (acc ++ ts_124 ++ [-42]) _ (by omega) (by omega) (by omega) (⟨g9, by omega, hkk_169⟩) hL33_0 rfl (by omega)
        exact lp33_3 (Int.toNat (161 - a2_17) + 1) a2_17 (chM T n (sk T n a2_17)) ts_18 _ (by omega) (by omega) (by omega) (⟨161, by omega, (seqG_r hq_21).symm⟩) rfl rfl (by omega)
set_option maxHeartbeats 4000000 in
set_option maxRecDepth 100000 in
theorem kX12_sum (l : Launch) (K : Nat) (d : Nat) (hd : 5 ≤ d) (hte : C_X12_term l K d) : C_X12_sum l K (d + 1) := by
  intro h0 hT f T n a dp hC hV hN C V Nk tx k hf0 hf1 hf2 hf3 hf4 hf5 okT ha ht hk hw
  refine AMv.of2 rfl (nle rfl) ?_
  intro D G A p e s m args below meth c Po hPo hnm X
  obtain ⟨hn0, hn1, hT2⟩ := id okT
  have hsk := sk_in (T := T) ha.2
  have hcm := chM_or okT (a := sk T n a) (by omega) (by omega)
  refine S_aload_n X dX12_sum_0 rfl rfl ?_
  refine S_callv X (hte h0 hT f T n a dp hC hV hN C V Nk tx k hf0 hf1 hf2 hf3 hf4 hf5 (by omega) (by omega) (by omega) (by omega) (by omega)) (is := [0, 1, 2, 3, 4]) rfl (run_V X lkX12_161 0 rfl rfl (is := [0, 1, 2, 3, 4]) (avs := []) (rest := []) rfl rfl (nle rfl) ⟨by simp only [rmD]; omega, by simp only [rmD]; omega⟩ ⟨nle rfl, nle rfl⟩ dX12_sum_1 (by decide) rfl) (fun u_1 hp_2 => ?_)
  rcases hp_2 with ⟨a2_4, fl_5, k2_6, dp2_7, C2_8, V2_9, hu_11, hq_12, hfl_13, hr_14, hfC_15, hfV_16⟩ | ⟨a2_17, ts_18, hu_20, hq_21⟩
  ·
    subst hu_11
    refine ⟨rfl, ?_⟩
    refine S_w (ws' := [(h0, ob 11 (uF (uF (uF f 3 (iv a2_4)) 4 (iv fl_5)) 5 (iv dp2_7))), (hT, ar 160 T), (hC, ar 1700 C2_8), (hV, ar 1700 V2_9), (hN, ar 5 (uZ Nk tx k2_6))]) rfl ?_
    refine S_aload_n X dX12_sum_4 rfl rfl ?_
    refine S_get (v := iv fl_5) X fgX12_118_11 0 rfl rfl dX12_sum_5 ?_
    refine S_iconst X dX12_sum_8 ?_
    refine S_icmp_ne (tgt := 19) X dX12_sum_9 (by decide) (by omega) (by decide) (fun c_22 => ?_) (fun c_22 => by exfalso; omega)
    refine S_iconst X dX12_sum_19 ?_
    refine S_istore_n X dX12_sum_20 rfl (nle rfl) ?_
    refine S_iload_n X dX12_sum_21 rfl rfl ?_
    refine S_bipush X dX12_sum_22 rfl ?_
    refine S_icmp_eq (tgt := 33) X dX12_sum_24 (by decide) (by decide) (by decide) (fun h9 => absurd h9 (by decide)) (fun _ => ?_)
    refine S_iload_n X dX12_sum_27 rfl rfl ?_
    refine S_bipush X dX12_sum_28 rfl ?_
    refine S_icmp_ne (tgt := 83) X dX12_sum_30 (by decide) (by decide) (by decide) (fun _ => ?_) (fun h9 => absurd h9 (by decide))
    exact S_vret X (nle rfl) (nle rfl) dX12_sum_83 (hPo _ (Or.inl ⟨_, _, _, _, _, _, rfl, (pSum_T hn1 K a ha.1 ha.2).trans (seqG_f hq_12), by omega, by omega, by first | exact frm_0 | assumption | exact frm_r (by omega) (by omega) | exact frm_w (by assumption) (by omega) (by omega) | exact frm_p frm_0 (by omega) | exact frm_p (by assumption) (by omega) | exact frm_p (frm_w (by assumption) (by omega) (by omega)) (by omega), by first | exact frm_0 | assumption | exact frm_r (by omega) (by omega) | exact frm_w (by assumption) (by omega) (by omega) | exact frm_p frm_0 (by omega) | exact frm_p (by assumption) (by omega) | exact frm_p (frm_w (by assumption) (by omega) (by omega)) (by omega)⟩))
  ·
    subst hu_20
    refine ⟨rfl, ?_⟩
    refine S_w (ws' := [(h0, ob 11 (uF (uF (uF f 3 (iv a2_17)) 4 (iv (-1))) 5 (iv dp))), (hT, ar 160 T), (hC, ar 1700 (wrL C (340 * tx + k) (List.map kC ts_18))), (hV, ar 1700 (wrL V (340 * tx + k) (List.map kV ts_18))), (hN, ar 5 (uZ Nk tx (k + ((ts_18).length : Int))))]) rfl ?_
    have ho_25 := (pTerm_ok (T := T) hn1 K a (by omega) (by omega)).2 _ hq_21
    dsimp only at ho_25
    refine S_aload_n X dX12_sum_4 rfl rfl ?_
    refine S_get (v := iv (-1)) X fgX12_118_11 0 rfl rfl dX12_sum_5 ?_
    refine S_iconst X dX12_sum_8 ?_
    refine S_icmp_ne (tgt := 19) X dX12_sum_9 (by decide) (by decide) (by decide) (fun h9 => absurd h9 (by decide)) (fun _ => ?_)
    refine S_aload_n X dX12_sum_12 rfl rfl ?_
    refine S_calli X (kX12_look l h0 hT f T n a2_17 (-1) dp hf0 hf1 (by omega) (by omega)) (is := [0, 1]) rfl (run_V X lkX12_130 0 rfl rfl (is := [0, 1]) (avs := []) (rest := []) rfl rfl (nle rfl) ⟨by simp only [rmD]; omega, by simp only [rmD]; omega⟩ ⟨nle rfl, nle rfl⟩ dX12_sum_13 (by decide) rfl) (fun z_29 u_27 hp_28 => ?_)
    obtain ⟨hz_30, hu_31⟩ := hp_28
    subst hz_30
    subst hu_31
    refine ⟨rfl, ?_⟩
    refine S_w (ws' := [(h0, ob 11 (uF (uF (uF f 3 (iv (sk T n a2_17))) 4 (iv (-1))) 5 (iv dp))), (hT, ar 160 T), (hC, ar 1700 (wrL C (340 * tx + k) (List.map kC ts_18))), (hV, ar 1700 (wrL V (340 * tx + k) (List.map kV ts_18))), (hN, ar 5 (uZ Nk tx (k + ((ts_18).length : Int))))]) rfl ?_
    have hsk_32 := sk_in (T := T) (n := n) (a := a2_17) (by omega)
    have hcm_32 := chM_or okT (a := sk T n a2_17) (by omega) (by omega)
    refine S_goto (tgt := 20) X dX12_sum_16 (by decide) ?_
    refine S_istore_n X dX12_sum_20 rfl (nle rfl) ?_
    refine S_iload_n X dX12_sum_21 rfl rfl ?_
    refine S_bipush X dX12_sum_22 rfl ?_
    refine S_icmp_eq (tgt := 33) X dX12_sum_24 (by decide) (by omega) (by decide) (fun c_33 => ?_) (fun c_33 => ?_)
    ·
      have lp33_2 : ∀ (N : Nat) (a1 : Int) (c1 : Int) (acc : List Int) (L : Nat → Option AV), a < a1 ∧ a1 ≤ n → c1 = chM T n (sk T n a1) ∧ (c1 = 43 ∨ c1 = 45) → (acc.length : Int) ≤ a1 - a → (∃ f : Nat, 161 - a1 ≤ f ∧ loopL T n 43 45 (pTerm T n K) f a1 acc = seqG T n 43 45 (pTerm T n K) a) → L 0 = some (rv h0) → L 1 = some (iv c1) → 161 - a1 < (N : Int) → S_ p l e (rmD (d + 1) 0 0) s m args below meth c (MQ below (QcV D G A Po) args s 0 0 A) D G A 2 0 0 33 L [] [(h0, ob 11 (uF (uF (uF f 3 (iv (sk T n a1))) 4 (iv (-1))) 5 (iv dp))), (hT, ar 160 T), (hC, ar 1700 (wrL C (340 * tx + k) (List.map kC acc))), (hV, ar 1700 (wrL V (340 * tx + k) (List.map kV acc))), (hN, ar 5 (uZ Nk tx (k + ((acc).length : Int))))] := by
        intro N
        induction N with
        | zero =>
          intro a1 c1 acc L33 hi hc1 hbd hkl hL33_0 hL33_1 hN33
          exfalso; omega
        | succ N ih33 =>
          intro a1 c1 acc L33 hi hc1 hbd hkl hL33_0 hL33_1 hN33
          obtain ⟨f9, hf9, hk9⟩ := hkl
          obtain ⟨g9, rfl⟩ : ∃ g, f9 = g + 1 := ⟨f9 - 1, by omega⟩
          have hsk1 := sk_in (T := T) (n := n) (a := a1) (by omega)
          have hcm1 := chM_or okT (a := sk T n a1) (by omega) (by omega)
          refine S_aload_n X dX12_sum_33 rfl hL33_0 ?_
          refine S_dup X dX12_sum_34 ?_
          refine S_get (v := iv (sk T n a1)) X fgX12_111_11 0 rfl rfl dX12_sum_35 ?_
          refine S_iconst X dX12_sum_38 ?_
          refine S_iadd X dX12_sum_39 ?_
          refine S_put X fpX12_111_11 0 rfl FT_i dX12_sum_40 ?_
          refine S_w (ws' := [(h0, ob 11 (uF (uF (uF f 3 (iv ((sk T n a1) + 1))) 4 (iv (-1))) 5 (iv dp))), (hT, ar 160 T), (hC, ar 1700 (wrL C (340 * tx + k) (List.map kC acc))), (hV, ar 1700 (wrL V (340 * tx + k) (List.map kV acc))), (hN, ar 5 (uZ Nk tx (k + ((acc).length : Int))))]) (by simp only [List.set]; rw [uF_mv (j := 5) (k := 3) (by decide), uF_mv (j := 4) (k := 3) (by decide), uF_same (k := 3)]) ?_
          refine S_aload_n X dX12_sum_43 rfl hL33_0 ?_
          refine S_callv X (hte h0 hT f T n ((sk T n a1) + 1) dp hC hV hN (wrL C (340 * tx + k) (List.map kC acc)) (wrL V (340 * tx + k) (List.map kV acc)) Nk tx (k + ((acc).length : Int)) hf0 hf1 hf2 hf3 hf4 hf5 (by omega) (by omega) (by omega) (by omega) (by omega)) (is := [0, 1, 2, 3, 4]) rfl (run_V X lkX12_161 0 rfl rfl (is := [0, 1, 2, 3, 4]) (avs := []) (rest := []) rfl rfl (nle rfl) ⟨by simp only [rmD]; omega, by simp only [rmD]; omega⟩ ⟨nle rfl, nle rfl⟩ dX12_sum_44 (by decide) rfl) (fun u_34 hp_35 => ?_)
          rcases hp_35 with ⟨a2_37, fl_38, k2_39, dp2_40, C2_41, V2_42, hu_44, hq_45, hfl_46, hr_47, hfC_48, hfV_49⟩ | ⟨a2_50, ts_51, hu_53, hq_54⟩
          ·
            subst hu_44
            refine ⟨rfl, ?_⟩
            refine S_w (ws' := [(h0, ob 11 (uF (uF (uF f 3 (iv a2_37)) 4 (iv fl_38)) 5 (iv dp2_40))), (hT, ar 160 T), (hC, ar 1700 C2_41), (hV, ar 1700 V2_42), (hN, ar 5 (uZ Nk tx k2_39))]) rfl ?_
            refine S_aload_n X dX12_sum_47 rfl hL33_0 ?_
            refine S_iload_n X dX12_sum_48 rfl hL33_1 ?_
            refine S_bipush X dX12_sum_49 rfl ?_
            refine S_icmp_ne (tgt := 58) X dX12_sum_51 (by decide) (by omega) (by decide) (fun c_55 => ?_) (fun c_55 => ?_)
            ·
              refine S_iconst X dX12_sum_58 ?_
              refine S_iconst X dX12_sum_59 ?_
              refine S_callv X (kX12_put l h0 f a2_37 fl_38 dp2_40 hC hV hN C2_41 V2_42 Nk tx k2_39 3 0 hf2 hf3 hf4 hf5 (by omega) (by omega)) (is := [0, 2, 3, 4]) rfl (run_V X lkX12_140 0 rfl rfl (is := [0, 2, 3, 4]) (avs := [iv 3, iv 0]) (rest := []) rfl rfl (nle rfl) ⟨by simp only [rmD]; omega, by simp only [rmD]; omega⟩ ⟨nle rfl, nle rfl⟩ dX12_sum_60 (by decide) rfl) (fun u_56 hp_57 => ?_)
              have hu_60 := hp_57
              subst hu_60
              refine ⟨rfl, ?_⟩
              refine S_w (ws' := [(h0, ob 11 (uF (uF (uF f 3 (iv a2_37)) 4 (iv fl_38)) 5 (iv dp2_40))), (hT, ar 160 T), (hC, ar 1700 (uZ C2_41 (340 * tx + k2_39) 3)), (hV, ar 1700 (uZ V2_42 (340 * tx + k2_39) 0)), (hN, ar 5 (uZ Nk tx (k2_39 + 1)))]) rfl ?_
              refine S_aload_n X dX12_sum_63 rfl hL33_0 ?_
              refine S_get (v := iv fl_38) X fgX12_118_11 0 rfl rfl dX12_sum_64 ?_
              refine S_iconst X dX12_sum_67 ?_
              refine S_icmp_ne (tgt := 78) X dX12_sum_68 (by decide) (by omega) (by decide) (fun c_61 => ?_) (fun c_61 => by exfalso; omega)
              refine S_iconst X dX12_sum_78 ?_
              refine S_istore_n X dX12_sum_79 rfl (nle rfl) ?_
              refine S_goto (tgt := 21) X dX12_sum_80 (by decide) ?_
              refine S_iload_n X dX12_sum_21 rfl rfl ?_
              refine S_bipush X dX12_sum_22 rfl ?_
              refine S_icmp_eq (tgt := 33) X dX12_sum_24 (by decide) (by decide) (by decide) (fun h9 => absurd h9 (by decide)) (fun _ => ?_)
              refine S_iload_n X dX12_sum_27 rfl rfl ?_
              refine S_bipush X dX12_sum_28 rfl ?_
              refine S_icmp_ne (tgt := 83) X dX12_sum_30 (by decide) (by decide) (by decide) (fun _ => ?_) (fun h9 => absurd h9 (by decide))
              exact S_vret X (nle rfl) (nle rfl) dX12_sum_83 (hPo _ (Or.inl ⟨_, _, _, _, _, _, rfl, (pSum_T hn1 K a ha.1 ha.2).trans (hk9.symm.trans (loopL_f (by omega) hq_45)), by omega, by omega, by first | exact frm_0 | assumption | exact frm_r (by omega) (by omega) | exact frm_w (by assumption) (by omega) (by omega) | exact frm_p frm_0 (by omega) | exact frm_p (by assumption) (by omega) | exact frm_p (frm_w (by assumption) (by omega) (by omega)) (by omega), by first | exact frm_0 | assumption | exact frm_r (by omega) (by omega) | exact frm_w (by assumption) (by omega) (by omega) | exact frm_p frm_0 (by omega) | exact frm_p (by assumption) (by omega) | exact frm_p (frm_w (by assumption) (by omega) (by omega)) (by omega)⟩))
            ·
              refine S_iconst X dX12_sum_54 ?_
              refine S_goto (tgt := 59) X dX12_sum_55 (by decide) ?_
              refine S_iconst X dX12_sum_59 ?_
              refine S_callv X (kX12_put l h0 f a2_37 fl_38 dp2_40 hC hV hN C2_41 V2_42 Nk tx k2_39 2 0 hf2 hf3 hf4 hf5 (by omega) (by omega)) (is := [0, 2, 3, 4]) rfl (run_V X lkX12_140 0 rfl rfl (is := [0, 2, 3, 4]) (avs := [iv 2, iv 0]) (rest := []) rfl rfl (nle rfl) ⟨by simp only [rmD]; omega, by simp only [rmD]; omega⟩ ⟨nle rfl, nle rfl⟩ dX12_sum_60 (by decide) rfl) (fun u_64 hp_65 => ?_)
              have hu_68 := hp_65
              subst hu_68
              refine ⟨rfl, ?_⟩
              refine S_w (ws' := [(h0, ob 11 (uF (uF (uF f 3 (iv a2_37)) 4 (iv fl_38)) 5 (iv dp2_40))), (hT, ar 160 T), (hC, ar 1700 (uZ C2_41 (340 * tx + k2_39) 2)), (hV, ar 1700 (uZ V2_42 (340 * tx + k2_39) 0)), (hN, ar 5 (uZ Nk tx (k2_39 + 1)))]) rfl ?_
              refine S_aload_n X dX12_sum_63 rfl hL33_0 ?_
              refine S_get (v := iv fl_38) X fgX12_118_11 0 rfl rfl dX12_sum_64 ?_
              refine S_iconst X dX12_sum_67 ?_
              refine S_icmp_ne (tgt := 78) X dX12_sum_68 (by decide) (by omega) (by decide) (fun c_69 => ?_) (fun c_69 => by exfalso; omega)
              refine S_iconst X dX12_sum_78 ?_
              refine S_istore_n X dX12_sum_79 rfl (nle rfl) ?_
              refine S_goto (tgt := 21) X dX12_sum_80 (by decide) ?_
              refine S_iload_n X dX12_sum_21 rfl rfl ?_
              refine S_bipush X dX12_sum_22 rfl ?_
              refine S_icmp_eq (tgt := 33) X dX12_sum_24 (by decide) (by decide) (by decide) (fun h9 => absurd h9 (by decide)) (fun _ => ?_)
              refine S_iload_n X dX12_sum_27 rfl rfl ?_
              refine S_bipush X dX12_sum_28 rfl ?_
              refine S_icmp_ne (tgt := 83) X dX12_sum_30 (by decide) (by decide) (by decide) (fun _ => ?_) (fun h9 => absurd h9 (by decide))
              exact S_vret X (nle rfl) (nle rfl) dX12_sum_83 (hPo _ (Or.inl ⟨_, _, _, _, _, _, rfl, (pSum_T hn1 K a ha.1 ha.2).trans (hk9.symm.trans (loopL_f (by omega) hq_45)), by omega, by omega, by first | exact frm_0 | assumption | exact frm_r (by omega) (by omega) | exact frm_w (by assumption) (by omega) (by omega) | exact frm_p frm_0 (by omega) | exact frm_p (by assumption) (by omega) | exact frm_p (frm_w (by assumption) (by omega) (by omega)) (by omega), by first | exact frm_0 | assumption | exact frm_r (by omega) (by omega) | exact frm_w (by assumption) (by omega) (by omega) | exact frm_p frm_0 (by omega) | exact frm_p (by assumption) (by omega) | exact frm_p (frm_w (by assumption) (by omega) (by omega)) (by omega)⟩))
          ·
            subst hu_53
            refine ⟨rfl, ?_⟩
            refine S_w (ws' := [(h0, ob 11 (uF (uF (uF f 3 (iv a2_50)) 4 (iv (-1))) 5 (iv dp))), (hT, ar 160 T), (hC, ar 1700 (wrL (wrL C (340 * tx + k) (List.map kC acc)) (340 * tx + (k + ((acc).length : Int))) (List.map kC ts_51))), (hV, ar 1700 (wrL (wrL V (340 * tx + k) (List.map kV acc)) (340 * tx + (k + ((acc).length : Int))) (List.map kV ts_51))), (hN, ar 5 (uZ Nk tx ((k + ((acc).length : Int)) + ((ts_51).length : Int))))]) rfl ?_
            refine S_w (ws' := [(h0, ob 11 (uF (uF (uF f 3 (iv a2_50)) 4 (iv (-1))) 5 (iv dp))), (hT, ar 160 T), (hC, ar 1700 (wrL C (340 * tx + k) (List.map kC (acc ++ ts_51)))), (hV, ar 1700 (wrL V (340 * tx + k) (List.map kV (acc ++ ts_51)))), (hN, ar 5 (uZ Nk tx (k + ((acc ++ ts_51).length : Int))))]) (by simp only [rW_app, rK_app]) ?_
            have ho_72 := (pTerm_ok (T := T) hn1 K (sk T n a1 + 1) (by omega) (by omega)).2 _ hq_54
            dsimp only at ho_72
            have hln_72 : (((acc ++ ts_51).length : Nat) : Int) = _ := congrArg Nat.cast List.length_append
            rw [Int.natCast_add] at hln_72
            refine S_aload_n X dX12_sum_47 rfl hL33_0 ?_
            refine S_iload_n X dX12_sum_48 rfl hL33_1 ?_
            refine S_bipush X dX12_sum_49 rfl ?_
            refine S_icmp_ne (tgt := 58) X dX12_sum_51 (by decide) (by omega) (by decide) (fun c_73 => ?_) (fun c_73 => ?_)
            ·
              refine S_iconst X dX12_sum_58 ?_
              refine S_iconst X dX12_sum_59 ?_
              refine S_callv X (kX12_put l h0 f a2_50 (-1) dp hC hV hN (wrL C (340 * tx + k) (List.map kC (acc ++ ts_51))) (wrL V (340 * tx + k) (List.map kV (acc ++ ts_51))) Nk tx (k + ((acc ++ ts_51).length : Int)) 3 0 hf2 hf3 hf4 hf5 (by omega) (by omega)) (is := [0, 2, 3, 4]) rfl (run_V X lkX12_140 0 rfl rfl (is := [0, 2, 3, 4]) (avs := [iv 3, iv 0]) (rest := []) rfl rfl (nle rfl) ⟨by simp only [rmD]; omega, by simp only [rmD]; omega⟩ ⟨nle rfl, nle rfl⟩ dX12_sum_60 (by decide) rfl) (fun u_74 hp_75 => ?_)
              have hu_78 := hp_75
              subst hu_78
              refine ⟨rfl, ?_⟩
              refine S_w (ws' := [(h0, ob 11 (uF (uF (uF f 3 (iv a2_50)) 4 (iv (-1))) 5 (iv dp))), (hT, ar 160 T), (hC, ar 1700 (uZ (wrL C (340 * tx + k) (List.map kC (acc ++ ts_51))) (340 * tx + (k + ((acc ++ ts_51).length : Int))) 3)), (hV, ar 1700 (uZ (wrL V (340 * tx + k) (List.map kV (acc ++ ts_51))) (340 * tx + (k + ((acc ++ ts_51).length : Int))) 0)), (hN, ar 5 (uZ Nk tx ((k + ((acc ++ ts_51).length : Int)) + 1)))]) rfl ?_
              refine S_w (ws' := [(h0, ob 11 (uF (uF (uF f 3 (iv a2_50)) 4 (iv (-1))) 5 (iv dp))), (hT, ar 160 T), (hC, ar 1700 (wrL C (340 * tx + k) (List.map kC (acc ++ ts_51 ++ [-45])))), (hV, ar 1700 (wrL V (340 * tx + k) (List.map kV (acc ++ ts_51 ++ [-45])))), (hN, ar 5 (uZ Nk tx (k + ((acc ++ ts_51 ++ [-45]).length : Int))))]) (by rw [rW_put (g := kC) (c0 := 3) (-45) rfl, rW_put (g := kV) (c0 := 0) (-45) rfl, rK_put (-45)]) ?_
              have hln_79 : (((acc ++ ts_51 ++ [-45]).length : Nat) : Int) = _ := congrArg Nat.cast List.length_append
              rw [Int.natCast_add, List.length_singleton] at hln_79
              have hkk_80 := (lpS (f := g9) (acc := acc) (show ch T n (sk T n a1) = 45 by omega) (by omega) hq_54).symm.trans hk9
              refine S_aload_n X dX12_sum_63 rfl hL33_0 ?_
              refine S_get (v := iv (-1)) X fgX12_118_11 0 rfl rfl dX12_sum_64 ?_
              refine S_iconst X dX12_sum_67 ?_
              refine S_icmp_ne (tgt := 78) X dX12_sum_68 (by decide) (by decide) (by decide) (fun h9 => absurd h9 (by decide)) (fun _ => ?_)
              refine S_aload_n X dX12_sum_71 rfl hL33_0 ?_
              refine S_calli X (kX12_look l h0 hT f T n a2_50 (-1) dp hf0 hf1 (by omega) (by omega)) (is := [0, 1]) rfl (run_V X lkX12_130 0 rfl rfl (is := [0, 1]) (avs := []) (rest := []) rfl rfl (nle rfl) ⟨by simp only [rmD]; omega, by simp only [rmD]; omega⟩ ⟨nle rfl, nle rfl⟩ dX12_sum_72 (by decide) rfl) (fun z_84 u_82 hp_83 => ?_)
              obtain ⟨hz_85, hu_86⟩ := hp_83
              subst hz_85
              subst hu_86
              refine ⟨rfl, ?_⟩
              refine S_w (ws' := [(h0, ob 11 (uF (uF (uF f 3 (iv (sk T n a2_50))) 4 (iv (-1))) 5 (iv dp))), (hT, ar 160 T), (hC, ar 1700 (wrL C (340 * tx + k) (List.map kC (acc ++ ts_51 ++ [-45])))), (hV, ar 1700 (wrL V (340 * tx + k) (List.map kV (acc ++ ts_51 ++ [-45])))), (hN, ar 5 (uZ Nk tx (k + ((acc ++ ts_51 ++ [-45]).length : Int))))]) rfl ?_
              have hsk_87 := sk_in (T := T) (n := n) (a := a2_50) (by omega)
              have hcm_87 := chM_or okT (a := sk T n a2_50) (by omega) (by omega)
              refine S_goto (tgt := 79) X dX12_sum_75 (by decide) ?_
              refine S_istore_n X dX12_sum_79 rfl (nle rfl) ?_
              refine S_goto (tgt := 21) X dX12_sum_80 (by decide) ?_
              refine S_iload_n X dX12_sum_21 rfl rfl ?_
              refine S_bipush X dX12_sum_22 rfl ?_
              refine S_icmp_eq (tgt := 33) X dX12_sum_24 (by decide) (by omega) (by decide) (fun c_88 => ?_) (fun c_88 => ?_)
              ·
                exact ih33 a2_50 (chM T n (sk T n a2_50)) (acc ++ ts_51 ++ [-45]) _ (by omega) (by omega) (by omega) (⟨g9, by omega, hkk_80⟩) hL33_0 rfl (by omega)
              ·
                refine S_iload_n X dX12_sum_27 rfl rfl ?_
                refine S_bipush X dX12_sum_28 rfl ?_
                refine S_icmp_ne (tgt := 83) X dX12_sum_30 (by decide) (by omega) (by decide) (fun c_89 => ?_) (fun c_89 => ?_)
                ·
                  exact S_vret X (nle rfl) (nle rfl) dX12_sum_83 (hPo _ (Or.inr ⟨_, _, rfl, (pSum_T hn1 K a ha.1 ha.2).trans (hkk_80.symm.trans (lpE (by omega) (by omega)))⟩))
                ·
                  exact ih33 a2_50 (chM T n (sk T n a2_50)) (acc ++ ts_51 ++ [-45]) _ (by omega) (by omega) (by omega) (⟨g9, by omega, hkk_80⟩) hL33_0 rfl (by omega)
            ·
              refine S_iconst X dX12_sum_54 ?_
              refine S_goto (tgt := 59) X dX12_sum_55 (by decide) ?_
              refine S_iconst X dX12_sum_59 ?_
              refine S_callv X (kX12_put l h0 f a2_50 (-1) dp hC hV hN (wrL C (340 * tx + k) (List.map kC (acc ++ ts_51))) (wrL V (340 * tx + k) (List.map kV (acc ++ ts_51))) Nk tx (k + ((acc ++ ts_51).length : Int)) 2 0 hf2 hf3 hf4 hf5 (by omega) (by omega)) (is := [0, 2, 3, 4]) rfl (run_V X lkX12_140 0 rfl rfl (is := [0, 2, 3, 4]) (avs := [iv 2, iv 0]) (rest := []) rfl rfl (nle rfl) ⟨by simp only [rmD]; omega, by simp only [rmD]; omega⟩ ⟨nle rfl, nle rfl⟩ dX12_sum_60 (by decide) rfl) (fun u_90 hp_91 => ?_)
              have hu_94 := hp_91
              subst hu_94
              refine ⟨rfl, ?_⟩
              refine S_w (ws' := [(h0, ob 11 (uF (uF (uF f 3 (iv a2_50)) 4 (iv (-1))) 5 (iv dp))), (hT, ar 160 T), (hC, ar 1700 (uZ (wrL C (340 * tx + k) (List.map kC (acc ++ ts_51))) (340 * tx + (k + ((acc ++ ts_51).length : Int))) 2)), (hV, ar 1700 (uZ (wrL V (340 * tx + k) (List.map kV (acc ++ ts_51))) (340 * tx + (k + ((acc ++ ts_51).length : Int))) 0)), (hN, ar 5 (uZ Nk tx ((k + ((acc ++ ts_51).length : Int)) + 1)))]) rfl ?_
              refine S_w (ws' := [(h0, ob 11 (uF (uF (uF f 3 (iv a2_50)) 4 (iv (-1))) 5 (iv dp))), (hT, ar 160 T), (hC, ar 1700 (wrL C (340 * tx + k) (List.map kC (acc ++ ts_51 ++ [-43])))), (hV, ar 1700 (wrL V (340 * tx + k) (List.map kV (acc ++ ts_51 ++ [-43])))), (hN, ar 5 (uZ Nk tx (k + ((acc ++ ts_51 ++ [-43]).length : Int))))]) (by rw [rW_put (g := kC) (c0 := 2) (-43) rfl, rW_put (g := kV) (c0 := 0) (-43) rfl, rK_put (-43)]) ?_
              have hln_95 : (((acc ++ ts_51 ++ [-43]).length : Nat) : Int) = _ := congrArg Nat.cast List.length_append
              rw [Int.natCast_add, List.length_singleton] at hln_95
              have hkk_96 := (lpS (f := g9) (acc := acc) (show ch T n (sk T n a1) = 43 by omega) (by omega) hq_54).symm.trans hk9
              refine S_aload_n X dX12_sum_63 rfl hL33_0 ?_
              refine S_get (v := iv (-1)) X fgX12_118_11 0 rfl rfl dX12_sum_64 ?_
              refine S_iconst X dX12_sum_67 ?_
              refine S_icmp_ne (tgt := 78) X dX12_sum_68 (by decide) (by decide) (by decide) (fun h9 => absurd h9 (by decide)) (fun _ => ?_)
              refine S_aload_n X dX12_sum_71 rfl hL33_0 ?_
              refine S_calli X (kX12_look l h0 hT f T n a2_50 (-1) dp hf0 hf1 (by omega) (by omega)) (is := [0, 1]) rfl (run_V X lkX12_130 0 rfl rfl (is := [0, 1]) (avs := []) (rest := []) rfl rfl (nle rfl) ⟨by simp only [rmD]; omega, by simp only [rmD]; omega⟩ ⟨nle rfl, nle rfl⟩ dX12_sum_72 (by decide) rfl) (fun z_100 u_98 hp_99 => ?_)
              obtain ⟨hz_101, hu_102⟩ := hp_99
              subst hz_101
              subst hu_102
              refine ⟨rfl, ?_⟩
              refine S_w (ws' := [(h0, ob 11 (uF (uF (uF f 3 (iv (sk T n a2_50))) 4 (iv (-1))) 5 (iv dp))), (hT, ar 160 T), (hC, ar 1700 (wrL C (340 * tx + k) (List.map kC (acc ++ ts_51 ++ [-43])))), (hV, ar 1700 (wrL V (340 * tx + k) (List.map kV (acc ++ ts_51 ++ [-43])))), (hN, ar 5 (uZ Nk tx (k + ((acc ++ ts_51 ++ [-43]).length : Int))))]) rfl ?_
              have hsk_103 := sk_in (T := T) (n := n) (a := a2_50) (by omega)
              have hcm_103 := chM_or okT (a := sk T n a2_50) (by omega) (by omega)
              refine S_goto (tgt := 79) X dX12_sum_75 (by decide) ?_
              refine S_istore_n X dX12_sum_79 rfl (nle rfl) ?_
              refine S_goto (tgt := 21) X dX12_sum_80 (by decide) ?_
              refine S_iload_n X dX12_sum_21 rfl rfl ?_
              refine S_bipush X dX12_sum_22 rfl ?_
              refine S_icmp_eq (tgt := 33) X dX12_sum_24 (by decide) (by omega) (by decide) (fun c_104 => ?_) (fun c_104 => ?_)
              ·
                exact ih33 a2_50 (chM T n (sk T n a2_50)) (acc ++ ts_51 ++ [-43]) _ (by omega) (by omega) (by omega) (⟨g9, by omega, hkk_96⟩) hL33_0 rfl (by omega)
              ·
                refine S_iload_n X dX12_sum_27 rfl rfl ?_
                refine S_bipush X dX12_sum_28 rfl ?_
                refine S_icmp_ne (tgt := 83) X dX12_sum_30 (by decide) (by omega) (by decide) (fun c_105 => ?_) (fun c_105 => ?_)
                ·
                  exact S_vret X (nle rfl) (nle rfl) dX12_sum_83 (hPo _ (Or.inr ⟨_, _, rfl, (pSum_T hn1 K a ha.1 ha.2).trans (hkk_96.symm.trans (lpE (by omega) (by omega)))⟩))
                ·
                  exact ih33 a2_50 (chM T n (sk T n a2_50)) (acc ++ ts_51 ++ [-43]) _ (by omega) (by omega) (by omega) (⟨g9, by omega, hkk_96⟩) hL33_0 rfl (by omega)
      exact lp33_2 (Int.toNat (161 - a2_17) + 1) a2_17 (chM T n (sk T n a2_17)) ts_18 _ (by omega) (by omega) (by omega) (⟨161, by omega, (seqG_r hq_21).symm⟩) rfl rfl (by omega)
    ·
      refine S_iload_n X dX12_sum_27 rfl rfl ?_
      refine S_bipush X dX12_sum_28 rfl ?_
      refine S_icmp_ne (tgt := 83) X dX12_sum_30 (by decide) (by omega) (by decide) (fun c_106 => ?_) (fun c_106 => ?_)
      ·
        exact S_vret X (nle rfl) (nle rfl) dX12_sum_83 (hPo _ (Or.inr ⟨_, _, rfl, (pSum_T hn1 K a ha.1 ha.2).trans ((seqG_r hq_21).trans (lpE (by omega) (by omega)))⟩))
      ·
        have lp33_3 : ∀ (N : Nat) (a1 : Int) (c1 : Int) (acc : List Int) (L : Nat → Option AV), a < a1 ∧ a1 ≤ n → c1 = chM T n (sk T n a1) ∧ (c1 = 43 ∨ c1 = 45) → (acc.length : Int) ≤ a1 - a → (∃ f : Nat, 161 - a1 ≤ f ∧ loopL T n 43 45 (pTerm T n K) f a1 acc = seqG T n 43 45 (pTerm T n K) a) → L 0 = some (rv h0) → L 1 = some (iv c1) → 161 - a1 < (N : Int) → S_ p l e (rmD (d + 1) 0 0) s m args below meth c (MQ below (QcV D G A Po) args s 0 0 A) D G A 2 0 0 33 L [] [(h0, ob 11 (uF (uF (uF f 3 (iv (sk T n a1))) 4 (iv (-1))) 5 (iv dp))), (hT, ar 160 T), (hC, ar 1700 (wrL C (340 * tx + k) (List.map kC acc))), (hV, ar 1700 (wrL V (340 * tx + k) (List.map kV acc))), (hN, ar 5 (uZ Nk tx (k + ((acc).length : Int))))] := by
          intro N
          induction N with
          | zero =>
            intro a1 c1 acc L33 hi hc1 hbd hkl hL33_0 hL33_1 hN33
            exfalso; omega
          | succ N ih33 =>
            intro a1 c1 acc L33 hi hc1 hbd hkl hL33_0 hL33_1 hN33
            obtain ⟨f9, hf9, hk9⟩ := hkl
            obtain ⟨g9, rfl⟩ : ∃ g, f9 = g + 1 := ⟨f9 - 1, by omega⟩
            have hsk1 := sk_in (T := T) (n := n) (a := a1) (by omega)
            have hcm1 := chM_or okT (a := sk T n a1) (by omega) (by omega)
            refine S_aload_n X dX12_sum_33 rfl hL33_0 ?_
            refine S_dup X dX12_sum_34 ?_
            refine S_get (v := iv (sk T n a1)) X fgX12_111_11 0 rfl rfl dX12_sum_35 ?_
            refine S_iconst X dX12_sum_38 ?_
            refine S_iadd X dX12_sum_39 ?_
            refine S_put X fpX12_111_11 0 rfl FT_i dX12_sum_40 ?_
            refine S_w (ws' := [(h0, ob 11 (uF (uF (uF f 3 (iv ((sk T n a1) + 1))) 4 (iv (-1))) 5 (iv dp))), (hT, ar 160 T), (hC, ar 1700 (wrL C (340 * tx + k) (List.map kC acc))), (hV, ar 1700 (wrL V (340 * tx + k) (List.map kV acc))), (hN, ar 5 (uZ Nk tx (k + ((acc).length : Int))))]) (by simp only [List.set]; rw [uF_mv (j := 5) (k := 3) (by decide), uF_mv (j := 4) (k := 3) (by decide), uF_same (k := 3)]) ?_
            refine S_aload_n X dX12_sum_43 rfl hL33_0 ?_
            refine S_callv X (hte h0 hT f T n ((sk T n a1) + 1) dp hC hV hN (wrL C (340 * tx + k) (List.map kC acc)) (wrL V (340 * tx + k) (List.map kV acc)) Nk tx (k + ((acc).length : Int)) hf0 hf1 hf2 hf3 hf4 hf5 (by omega) (by omega) (by omega) (by omega) (by omega)) (is := [0, 1, 2, 3, 4]) rfl (run_V X lkX12_161 0 rfl rfl (is := [0, 1, 2, 3, 4]) (avs := []) (rest := []) rfl rfl (nle rfl) ⟨by simp only [rmD]; omega, by simp only [rmD]; omega⟩ ⟨nle rfl, nle rfl⟩ dX12_sum_44 (by decide) rfl) (fun u_107 hp_108 => ?_)
            rcases hp_108 with ⟨a2_110, fl_111, k2_112, dp2_113, C2_114, V2_115, hu_117, hq_118, hfl_119, hr_120, hfC_121, hfV_122⟩ | ⟨a2_123, ts_124, hu_126, hq_127⟩
            ·
              subst hu_117
              refine ⟨rfl, ?_⟩
              refine S_w (ws' := [(h0, ob 11 (uF (uF (uF f 3 (iv a2_110)) 4 (iv fl_111)) 5 (iv dp2_113))), (hT, ar 160 T), (hC, ar 1700 C2_114), (hV, ar 1700 V2_115), (hN, ar 5 (uZ Nk tx k2_112))]) rfl ?_
              refine S_aload_n X dX12_sum_47 rfl hL33_0 ?_
              refine S_iload_n X dX12_sum_48 rfl hL33_1 ?_
              refine S_bipush X dX12_sum_49 rfl ?_
              refine S_icmp_ne (tgt := 58) X dX12_sum_51 (by decide) (by omega) (by decide) (fun c_128 => ?_) (fun c_128 => ?_)
              ·
                refine S_iconst X dX12_sum_58 ?_
                refine S_iconst X dX12_sum_59 ?_
                refine S_callv X (kX12_put l h0 f a2_110 fl_111 dp2_113 hC hV hN C2_114 V2_115 Nk tx k2_112 3 0 hf2 hf3 hf4 hf5 (by omega) (by omega)) (is := [0, 2, 3, 4]) rfl (run_V X lkX12_140 0 rfl rfl (is := [0, 2, 3, 4]) (avs := [iv 3, iv 0]) (rest := []) rfl rfl (nle rfl) ⟨by simp only [rmD]; omega, by simp only [rmD]; omega⟩ ⟨nle rfl, nle rfl⟩ dX12_sum_60 (by decide) rfl) (fun u_129 hp_130 => ?_)
                have hu_133 := hp_130
                subst hu_133
                refine ⟨rfl, ?_⟩
                refine S_w (ws' := [(h0, ob 11 (uF (uF (uF f 3 (iv a2_110)) 4 (iv fl_111)) 5 (iv dp2_113))), (hT, ar 160 T), (hC, ar 1700 (uZ C2_114 (340 * tx + k2_112) 3)), (hV, ar 1700 (uZ V2_115 (340 * tx + k2_112) 0)), (hN, ar 5 (uZ Nk tx (k2_112 + 1)))]) rfl ?_
                refine S_aload_n X dX12_sum_63 rfl hL33_0 ?_
                refine S_get (v := iv fl_111) X fgX12_118_11 0 rfl rfl dX12_sum_64 ?_
                refine S_iconst X dX12_sum_67 ?_
                refine S_icmp_ne (tgt := 78) X dX12_sum_68 (by decide) (by omega) (by decide) (fun c_134 => ?_) (fun c_134 => by exfalso; omega)
                refine S_iconst X dX12_sum_78 ?_
                refine S_istore_n X dX12_sum_79 rfl (nle rfl) ?_
                refine S_goto (tgt := 21) X dX12_sum_80 (by decide) ?_
                refine S_iload_n X dX12_sum_21 rfl rfl ?_
                refine S_bipush X dX12_sum_22 rfl ?_
                refine S_icmp_eq (tgt := 33) X dX12_sum_24 (by decide) (by decide) (by decide) (fun h9 => absurd h9 (by decide)) (fun _ => ?_)
                refine S_iload_n X dX12_sum_27 rfl rfl ?_
                refine S_bipush X dX12_sum_28 rfl ?_
                refine S_icmp_ne (tgt := 83) X dX12_sum_30 (by decide) (by decide) (by decide) (fun _ => ?_) (fun h9 => absurd h9 (by decide))
                exact S_vret X (nle rfl) (nle rfl) dX12_sum_83 (hPo _ (Or.inl ⟨_, _, _, _, _, _, rfl, (pSum_T hn1 K a ha.1 ha.2).trans (hk9.symm.trans (loopL_f (by omega) hq_118)), by omega, by omega, by first | exact frm_0 | assumption | exact frm_r (by omega) (by omega) | exact frm_w (by assumption) (by omega) (by omega) | exact frm_p frm_0 (by omega) | exact frm_p (by assumption) (by omega) | exact frm_p (frm_w (by assumption) (by omega) (by omega)) (by omega), by first | exact frm_0 | assumption | exact frm_r (by omega) (by omega) | exact frm_w (by assumption) (by omega) (by omega) | exact frm_p frm_0 (by omega) | exact frm_p (by assumption) (by omega) | exact frm_p (frm_w (by assumption) (by omega) (by omega)) (by omega)⟩))
              ·
                refine S_iconst X dX12_sum_54 ?_
                refine S_goto (tgt := 59) X dX12_sum_55 (by decide) ?_
                refine S_iconst X dX12_sum_59 ?_
                refine S_callv X (kX12_put l h0 f a2_110 fl_111 dp2_113 hC hV hN C2_114 V2_115 Nk tx k2_112 2 0 hf2 hf3 hf4 hf5 (by omega) (by omega)) (is := [0, 2, 3, 4]) rfl (run_V X lkX12_140 0 rfl rfl (is := [0, 2, 3, 4]) (avs := [iv 2, iv 0]) (rest := []) rfl rfl (nle rfl) ⟨by simp only [rmD]; omega, by simp only [rmD]; omega⟩ ⟨nle rfl, nle rfl⟩ dX12_sum_60 (by decide) rfl) (fun u_137 hp_138 => ?_)
                have hu_141 := hp_138
                subst hu_141
                refine ⟨rfl, ?_⟩
                refine S_w (ws' := [(h0, ob 11 (uF (uF (uF f 3 (iv a2_110)) 4 (iv fl_111)) 5 (iv dp2_113))), (hT, ar 160 T), (hC, ar 1700 (uZ C2_114 (340 * tx + k2_112) 2)), (hV, ar 1700 (uZ V2_115 (340 * tx + k2_112) 0)), (hN, ar 5 (uZ Nk tx (k2_112 + 1)))]) rfl ?_
                refine S_aload_n X dX12_sum_63 rfl hL33_0 ?_
                refine S_get (v := iv fl_111) X fgX12_118_11 0 rfl rfl dX12_sum_64 ?_
                refine S_iconst X dX12_sum_67 ?_
                refine S_icmp_ne (tgt := 78) X dX12_sum_68 (by decide) (by omega) (by decide) (fun c_142 => ?_) (fun c_142 => by exfalso; omega)
                refine S_iconst X dX12_sum_78 ?_
                refine S_istore_n X dX12_sum_79 rfl (nle rfl) ?_
                refine S_goto (tgt := 21) X dX12_sum_80 (by decide) ?_
                refine S_iload_n X dX12_sum_21 rfl rfl ?_
                refine S_bipush X dX12_sum_22 rfl ?_
                refine S_icmp_eq (tgt := 33) X dX12_sum_24 (by decide) (by decide) (by decide) (fun h9 => absurd h9 (by decide)) (fun _ => ?_)
                refine S_iload_n X dX12_sum_27 rfl rfl ?_
                refine S_bipush X dX12_sum_28 rfl ?_
                refine S_icmp_ne (tgt := 83) X dX12_sum_30 (by decide) (by decide) (by decide) (fun _ => ?_) (fun h9 => absurd h9 (by decide))
                exact S_vret X (nle rfl) (nle rfl) dX12_sum_83 (hPo _ (Or.inl ⟨_, _, _, _, _, _, rfl, (pSum_T hn1 K a ha.1 ha.2).trans (hk9.symm.trans (loopL_f (by omega) hq_118)), by omega, by omega, by first | exact frm_0 | assumption | exact frm_r (by omega) (by omega) | exact frm_w (by assumption) (by omega) (by omega) | exact frm_p frm_0 (by omega) | exact frm_p (by assumption) (by omega) | exact frm_p (frm_w (by assumption) (by omega) (by omega)) (by omega), by first | exact frm_0 | assumption | exact frm_r (by omega) (by omega) | exact frm_w (by assumption) (by omega) (by omega) | exact frm_p frm_0 (by omega) | exact frm_p (by assumption) (by omega) | exact frm_p (frm_w (by assumption) (by omega) (by omega)) (by omega)⟩))
            ·
              subst hu_126
              refine ⟨rfl, ?_⟩
              refine S_w (ws' := [(h0, ob 11 (uF (uF (uF f 3 (iv a2_123)) 4 (iv (-1))) 5 (iv dp))), (hT, ar 160 T), (hC, ar 1700 (wrL (wrL C (340 * tx + k) (List.map kC acc)) (340 * tx + (k + ((acc).length : Int))) (List.map kC ts_124))), (hV, ar 1700 (wrL (wrL V (340 * tx + k) (List.map kV acc)) (340 * tx + (k + ((acc).length : Int))) (List.map kV ts_124))), (hN, ar 5 (uZ Nk tx ((k + ((acc).length : Int)) + ((ts_124).length : Int))))]) rfl ?_
              refine S_w (ws' := [(h0, ob 11 (uF (uF (uF f 3 (iv a2_123)) 4 (iv (-1))) 5 (iv dp))), (hT, ar 160 T), (hC, ar 1700 (wrL C (340 * tx + k) (List.map kC (acc ++ ts_124)))), (hV, ar 1700 (wrL V (340 * tx + k) (List.map kV (acc ++ ts_124)))), (hN, ar 5 (uZ Nk tx (k + ((acc ++ ts_124).length : Int))))]) (by simp only [rW_app, rK_app]) ?_
              have ho_145 := (pTerm_ok (T := T) hn1 K (sk T n a1 + 1) (by omega) (by omega)).2 _ hq_127
              dsimp only at ho_145
              have hln_145 : (((acc ++ ts_124).length : Nat) : Int) = _ := congrArg Nat.cast List.length_append
              rw [Int.natCast_add] at hln_145
              refine S_aload_n X dX12_sum_47 rfl hL33_0 ?_
              refine S_iload_n X dX12_sum_48 rfl hL33_1 ?_
              refine S_bipush X dX12_sum_49 rfl ?_
              refine S_icmp_ne (tgt := 58) X dX12_sum_51 (by decide) (by omega) (by decide) (fun c_146 => ?_) (fun c_146 => ?_)
              ·
                refine S_iconst X dX12_sum_58 ?_
                refine S_iconst X dX12_sum_59 ?_
                refine S_callv X (kX12_put l h0 f a2_123 (-1) dp hC hV hN (wrL C (340 * tx + k) (List.map kC (acc ++ ts_124))) (wrL V (340 * tx + k) (List.map kV (acc ++ ts_124))) Nk tx (k + ((acc ++ ts_124).length : Int)) 3 0 hf2 hf3 hf4 hf5 (by omega) (by omega)) (is := [0, 2, 3, 4]) rfl (run_V X lkX12_140 0 rfl rfl (is := [0, 2, 3, 4]) (avs := [iv 3, iv 0]) (rest := []) rfl rfl (nle rfl) ⟨by simp only [rmD]; omega, by simp only [rmD]; omega⟩ ⟨nle rfl, nle rfl⟩ dX12_sum_60 (by decide) rfl) (fun u_147 hp_148 => ?_)
                have hu_151 := hp_148
                subst hu_151
                refine ⟨rfl, ?_⟩
                refine S_w (ws' := [(h0, ob 11 (uF (uF (uF f 3 (iv a2_123)) 4 (iv (-1))) 5 (iv dp))), (hT, ar 160 T), (hC, ar 1700 (uZ (wrL C (340 * tx + k) (List.map kC (acc ++ ts_124))) (340 * tx + (k + ((acc ++ ts_124).length : Int))) 3)), (hV, ar 1700 (uZ (wrL V (340 * tx + k) (List.map kV (acc ++ ts_124))) (340 * tx + (k + ((acc ++ ts_124).length : Int))) 0)), (hN, ar 5 (uZ Nk tx ((k + ((acc ++ ts_124).length : Int)) + 1)))]) rfl ?_
                refine S_w (ws' := [(h0, ob 11 (uF (uF (uF f 3 (iv a2_123)) 4 (iv (-1))) 5 (iv dp))), (hT, ar 160 T), (hC, ar 1700 (wrL C (340 * tx + k) (List.map kC (acc ++ ts_124 ++ [-45])))), (hV, ar 1700 (wrL V (340 * tx + k) (List.map kV (acc ++ ts_124 ++ [-45])))), (hN, ar 5 (uZ Nk tx (k + ((acc ++ ts_124 ++ [-45]).length : Int))))]) (by rw [rW_put (g := kC) (c0 := 3) (-45) rfl, rW_put (g := kV) (c0 := 0) (-45) rfl, rK_put (-45)]) ?_
                have hln_152 : (((acc ++ ts_124 ++ [-45]).length : Nat) : Int) = _ := congrArg Nat.cast List.length_append
                rw [Int.natCast_add, List.length_singleton] at hln_152
                have hkk_153 := (lpS (f := g9) (acc := acc) (show ch T n (sk T n a1) = 45 by omega) (by omega) hq_127).symm.trans hk9
                refine S_aload_n X dX12_sum_63 rfl hL33_0 ?_
                refine S_get (v := iv (-1)) X fgX12_118_11 0 rfl rfl dX12_sum_64 ?_
                refine S_iconst X dX12_sum_67 ?_
                refine S_icmp_ne (tgt := 78) X dX12_sum_68 (by decide) (by decide) (by decide) (fun h9 => absurd h9 (by decide)) (fun _ => ?_)
                refine S_aload_n X dX12_sum_71 rfl hL33_0 ?_
                refine S_calli X (kX12_look l h0 hT f T n a2_123 (-1) dp hf0 hf1 (by omega) (by omega)) (is := [0, 1]) rfl (run_V X lkX12_130 0 rfl rfl (is := [0, 1]) (avs := []) (rest := []) rfl rfl (nle rfl) ⟨by simp only [rmD]; omega, by simp only [rmD]; omega⟩ ⟨nle rfl, nle rfl⟩ dX12_sum_72 (by decide) rfl) (fun z_157 u_155 hp_156 => ?_)
                obtain ⟨hz_158, hu_159⟩ := hp_156
                subst hz_158
                subst hu_159
                refine ⟨rfl, ?_⟩
                refine S_w (ws' := [(h0, ob 11 (uF (uF (uF f 3 (iv (sk T n a2_123))) 4 (iv (-1))) 5 (iv dp))), (hT, ar 160 T), (hC, ar 1700 (wrL C (340 * tx + k) (List.map kC (acc ++ ts_124 ++ [-45])))), (hV, ar 1700 (wrL V (340 * tx + k) (List.map kV (acc ++ ts_124 ++ [-45])))), (hN, ar 5 (uZ Nk tx (k + ((acc ++ ts_124 ++ [-45]).length : Int))))]) rfl ?_
                have hsk_160 := sk_in (T := T) (n := n) (a := a2_123) (by omega)
                have hcm_160 := chM_or okT (a := sk T n a2_123) (by omega) (by omega)
                refine S_goto (tgt := 79) X dX12_sum_75 (by decide) ?_
                refine S_istore_n X dX12_sum_79 rfl (nle rfl) ?_
                refine S_goto (tgt := 21) X dX12_sum_80 (by decide) ?_
                refine S_iload_n X dX12_sum_21 rfl rfl ?_
                refine S_bipush X dX12_sum_22 rfl ?_
                refine S_icmp_eq (tgt := 33) X dX12_sum_24 (by decide) (by omega) (by decide) (fun c_161 => ?_) (fun c_161 => ?_)
                ·
                  exact ih33 a2_123 (chM T n (sk T n a2_123)) (acc ++ ts_124 ++ [-45]) _ (by omega) (by omega) (by omega) (⟨g9, by omega, hkk_153⟩) hL33_0 rfl (by omega)
                ·
                  refine S_iload_n X dX12_sum_27 rfl rfl ?_
                  refine S_bipush X dX12_sum_28 rfl ?_
                  refine S_icmp_ne (tgt := 83) X dX12_sum_30 (by decide) (by omega) (by decide) (fun c_162 => ?_) (fun c_162 => ?_)
                  ·
                    exact S_vret X (nle rfl) (nle rfl) dX12_sum_83 (hPo _ (Or.inr ⟨_, _, rfl, (pSum_T hn1 K a ha.1 ha.2).trans (hkk_153.symm.trans (lpE (by omega) (by omega)))⟩))
                  ·
                    exact ih33 a2_123 (chM T n (sk T n a2_123)) (acc ++ ts_124 ++ [-45]) _ (by omega) (by omega) (by omega) (⟨g9, by omega, hkk_153⟩) hL33_0 rfl (by omega)
              ·
                refine S_iconst X dX12_sum_54 ?_
                refine S_goto (tgt := 59) X dX12_sum_55 (by decide) ?_
                refine S_iconst X dX12_sum_59 ?_
                refine S_callv X (kX12_put l h0 f a2_123 (-1) dp hC hV hN (wrL C (340 * tx + k) (List.map kC (acc ++ ts_124))) (wrL V (340 * tx + k) (List.map kV (acc ++ ts_124))) Nk tx (k + ((acc ++ ts_124).length : Int)) 2 0 hf2 hf3 hf4 hf5 (by omega) (by omega)) (is := [0, 2, 3, 4]) rfl (run_V X lkX12_140 0 rfl rfl (is := [0, 2, 3, 4]) (avs := [iv 2, iv 0]) (rest := []) rfl rfl (nle rfl) ⟨by simp only [rmD]; omega, by simp only [rmD]; omega⟩ ⟨nle rfl, nle rfl⟩ dX12_sum_60 (by decide) rfl) (fun u_163 hp_164 => ?_)
                have hu_167 := hp_164
                subst hu_167
                refine ⟨rfl, ?_⟩
                refine S_w (ws' := [(h0, ob 11 (uF (uF (uF f 3 (iv a2_123)) 4 (iv (-1))) 5 (iv dp))), (hT, ar 160 T), (hC, ar 1700 (uZ (wrL C (340 * tx + k) (List.map kC (acc ++ ts_124))) (340 * tx + (k + ((acc ++ ts_124).length : Int))) 2)), (hV, ar 1700 (uZ (wrL V (340 * tx + k) (List.map kV (acc ++ ts_124))) (340 * tx + (k + ((acc ++ ts_124).length : Int))) 0)), (hN, ar 5 (uZ Nk tx ((k + ((acc ++ ts_124).length : Int)) + 1)))]) rfl ?_
                refine S_w (ws' := [(h0, ob 11 (uF (uF (uF f 3 (iv a2_123)) 4 (iv (-1))) 5 (iv dp))), (hT, ar 160 T), (hC, ar 1700 (wrL C (340 * tx + k) (List.map kC (acc ++ ts_124 ++ [-43])))), (hV, ar 1700 (wrL V (340 * tx + k) (List.map kV (acc ++ ts_124 ++ [-43])))), (hN, ar 5 (uZ Nk tx (k + ((acc ++ ts_124 ++ [-43]).length : Int))))]) (by rw [rW_put (g := kC) (c0 := 2) (-43) rfl, rW_put (g := kV) (c0 := 0) (-43) rfl, rK_put (-43)]) ?_
                have hln_168 : (((acc ++ ts_124 ++ [-43]).length : Nat) : Int) = _ := congrArg Nat.cast List.length_append
                rw [Int.natCast_add, List.length_singleton] at hln_168
                have hkk_169 := (lpS (f := g9) (acc := acc) (show ch T n (sk T n a1) = 43 by omega) (by omega) hq_127).symm.trans hk9
                refine S_aload_n X dX12_sum_63 rfl hL33_0 ?_
                refine S_get (v := iv (-1)) X fgX12_118_11 0 rfl rfl dX12_sum_64 ?_
                refine S_iconst X dX12_sum_67 ?_
                refine S_icmp_ne (tgt := 78) X dX12_sum_68 (by decide) (by decide) (by decide) (fun h9 => absurd h9 (by decide)) (fun _ => ?_)
                refine S_aload_n X dX12_sum_71 rfl hL33_0 ?_
                refine S_calli X (kX12_look l h0 hT f T n a2_123 (-1) dp hf0 hf1 (by omega) (by omega)) (is := [0, 1]) rfl (run_V X lkX12_130 0 rfl rfl (is := [0, 1]) (avs := []) (rest := []) rfl rfl (nle rfl) ⟨by simp only [rmD]; omega, by simp only [rmD]; omega⟩ ⟨nle rfl, nle rfl⟩ dX12_sum_72 (by decide) rfl) (fun z_173 u_171 hp_172 => ?_)
                obtain ⟨hz_174, hu_175⟩ := hp_172
                subst hz_174
                subst hu_175
                refine ⟨rfl, ?_⟩
                refine S_w (ws' := [(h0, ob 11 (uF (uF (uF f 3 (iv (sk T n a2_123))) 4 (iv (-1))) 5 (iv dp))), (hT, ar 160 T), (hC, ar 1700 (wrL C (340 * tx + k) (List.map kC (acc ++ ts_124 ++ [-43])))), (hV, ar 1700 (wrL V (340 * tx + k) (List.map kV (acc ++ ts_124 ++ [-43])))), (hN, ar 5 (uZ Nk tx (k + ((acc ++ ts_124 ++ [-43]).length : Int))))]) rfl ?_
                have hsk_176 := sk_in (T := T) (n := n) (a := a2_123) (by omega)
                have hcm_176 := chM_or okT (a := sk T n a2_123) (by omega) (by omega)
                refine S_goto (tgt := 79) X dX12_sum_75 (by decide) ?_
                refine S_istore_n X dX12_sum_79 rfl (nle rfl) ?_
                refine S_goto (tgt := 21) X dX12_sum_80 (by decide) ?_
                refine S_iload_n X dX12_sum_21 rfl rfl ?_
                refine S_bipush X dX12_sum_22 rfl ?_
                refine S_icmp_eq (tgt := 33) X dX12_sum_24 (by decide) (by omega) (by decide) (fun c_177 => ?_) (fun c_177 => ?_)
                ·
                  exact ih33 a2_123 (chM T n (sk T n a2_123)) (acc ++ ts_124 ++ [-43]) _ (by omega) (by omega) (by omega) (⟨g9, by omega, hkk_169⟩) hL33_0 rfl (by omega)
                ·
                  refine S_iload_n X dX12_sum_27 rfl rfl ?_
                  refine S_bipush X dX12_sum_28 rfl ?_
                  refine S_icmp_ne (tgt := 83) X dX12_sum_30 (by decide) (by omega) (by decide) (fun c_178 => ?_) (fun c_178 => ?_)
                  ·
                    exact S_vret X (nle rfl) (nle rfl) dX12_sum_83 (hPo _ (Or.inr ⟨_, _, rfl, (pSum_T hn1 K a ha.1 ha.2).trans (hkk_169.symm.trans (lpE (by omega) (by omega)))⟩))
                  ·
                    exact ih33 a2_123 (chM T n (sk T n a2_123)) (acc ++ ts_124 ++ [-43]) _ (by omega) (by omega) (by omega) (⟨g9, by omega, hkk_169⟩) hL33_0 rfl (by omega)
        exact lp33_3 (Int.toNat (161 - a2_17) + 1) a2_17 (chM T n (sk T n a2_17)) ts_18 _ (by omega) (by omega) (by omega) (⟨161, by omega, (seqG_r hq_21).symm⟩) rfl rfl (by omega)
set_option maxHeartbeats 4000000 in
set_option maxRecDepth 100000 in
theorem kX12_compare (l : Launch) (K : Nat) (d : Nat) (hd : 5 ≤ d) (hsu : C_X12_sum l K d) : C_X12_compare l K (d + 1) := by
  intro h0 hT f T n a dp hC hV hN C V Nk tx k hf0 hf1 hf2 hf3 hf4 hf5 okT ha ht hk hw
  refine AMv.of2 rfl (nle rfl) ?_
  intro D G A p e s m args below meth c Po hPo hnm X
  obtain ⟨hn0, hn1, hT2⟩ := id okT
  have hsk := sk_in (T := T) ha.2
  have hcm := chM_or okT (a := sk T n a) (by omega) (by omega)
  refine S_aload_n X dX12_compare_0 rfl rfl ?_
  refine S_get (v := iv (-1)) X fgX12_118_11 0 rfl rfl dX12_compare_1 ?_
  refine S_iconst X dX12_compare_4 ?_
  refine S_icmp_ne (tgt := 15) X dX12_compare_5 (by decide) (by decide) (by decide) (fun h9 => absurd h9 (by decide)) (fun _ => ?_)
  refine S_aload_n X dX12_compare_8 rfl rfl ?_
  refine S_calli X (kX12_look l h0 hT f T n a (-1) dp hf0 hf1 (by omega) (by omega)) (is := [0, 1]) rfl (run_V X lkX12_130 0 rfl rfl (is := [0, 1]) (avs := []) (rest := []) rfl rfl (nle rfl) ⟨by simp only [rmD]; omega, by simp only [rmD]; omega⟩ ⟨nle rfl, nle rfl⟩ dX12_compare_9 (by decide) rfl) (fun z_4 u_2 hp_3 => ?_)
  obtain ⟨hz_5, hu_6⟩ := hp_3
  subst hz_5
  subst hu_6
  refine ⟨rfl, ?_⟩
  refine S_w (ws' := [(h0, ob 11 (uF (uF (uF f 3 (iv (sk T n a))) 4 (iv (-1))) 5 (iv dp))), (hT, ar 160 T), (hC, ar 1700 C), (hV, ar 1700 V), (hN, ar 5 (uZ Nk tx k))]) rfl ?_
  refine S_goto (tgt := 16) X dX12_compare_12 (by decide) ?_
  refine S_istore_n X dX12_compare_16 rfl (nle rfl) ?_
  refine S_iload_n X dX12_compare_17 rfl rfl ?_
  refine S_calli X (kX12_isSign l (chM T n (sk T n a)) (by omega)) (is := []) rfl (run_S X lkX12_164 (is := []) (avs := [iv (chM T n (sk T n a))]) (rest := []) rfl rfl (nle rfl) ⟨by simp only [rmD]; omega, by simp only [rmD]; omega⟩ ⟨nle rfl, nle rfl⟩ dX12_compare_18 (by decide) rfl) (fun z_9 u_7 hp_8 => ?_)
  rcases hp_8 with ⟨hz_10, hu_11, hd_12⟩ | ⟨hz_13, hu_14, hd_15⟩
  ·
    subst hz_10
    subst hu_11
    refine ⟨rfl, ?_⟩
    refine S_w (ws' := [(h0, ob 11 (uF (uF (uF f 3 (iv (sk T n a))) 4 (iv (-1))) 5 (iv dp))), (hT, ar 160 T), (hC, ar 1700 C), (hV, ar 1700 V), (hN, ar 5 (uZ Nk tx k))]) rfl ?_
    refine S_if_ne (tgt := 29) X dX12_compare_21 (by decide) (by decide) (fun h9 => absurd h9 (by decide)) (fun _ => ?_)
    refine S_aload_n X dX12_compare_24 rfl rfl ?_
    refine S_callv X (kX12_bad l h0 f (sk T n a) (-1) dp (by omega)) (is := [0]) rfl (run_V X lkX12_127 0 rfl rfl (is := [0]) (avs := []) (rest := []) rfl rfl (nle rfl) ⟨by simp only [rmD]; omega, by simp only [rmD]; omega⟩ ⟨nle rfl, nle rfl⟩ dX12_compare_25 (by decide) rfl) (fun u_17 hp_18 => ?_)
    have hu_21 := hp_18
    subst hu_21
    refine ⟨rfl, ?_⟩
    refine S_w (ws' := [(h0, ob 11 (uF (uF (uF f 3 (iv (sk T n a))) 4 (iv (sk T n a))) 5 (iv dp))), (hT, ar 160 T), (hC, ar 1700 C), (hV, ar 1700 V), (hN, ar 5 (uZ Nk tx k))]) rfl ?_
    exact S_vret X (nle rfl) (nle rfl) dX12_compare_28 (hPo _ (Or.inl ⟨_, _, _, _, _, _, rfl, cmp_n (by omega), by omega, by omega, by first | exact frm_0 | assumption | exact frm_r (by omega) (by omega) | exact frm_w (by assumption) (by omega) (by omega) | exact frm_p frm_0 (by omega) | exact frm_p (by assumption) (by omega) | exact frm_p (frm_w (by assumption) (by omega) (by omega)) (by omega), by first | exact frm_0 | assumption | exact frm_r (by omega) (by omega) | exact frm_w (by assumption) (by omega) (by omega) | exact frm_p frm_0 (by omega) | exact frm_p (by assumption) (by omega) | exact frm_p (frm_w (by assumption) (by omega) (by omega)) (by omega)⟩))
  ·
    subst hz_13
    subst hu_14
    refine ⟨rfl, ?_⟩
    refine S_w (ws' := [(h0, ob 11 (uF (uF (uF f 3 (iv (sk T n a))) 4 (iv (-1))) 5 (iv dp))), (hT, ar 160 T), (hC, ar 1700 C), (hV, ar 1700 V), (hN, ar 5 (uZ Nk tx k))]) rfl ?_
    refine S_if_ne (tgt := 29) X dX12_compare_21 (by decide) (by decide) (fun _ => ?_) (fun h9 => absurd h9 (by decide))
    refine S_aload_n X dX12_compare_29 rfl rfl ?_
    refine S_dup X dX12_compare_30 ?_
    refine S_get (v := iv (sk T n a)) X fgX12_111_11 0 rfl rfl dX12_compare_31 ?_
    refine S_iconst X dX12_compare_34 ?_
    refine S_iadd X dX12_compare_35 ?_
    refine S_put X fpX12_111_11 0 rfl FT_i dX12_compare_36 ?_
    refine S_w (ws' := [(h0, ob 11 (uF (uF (uF f 3 (iv ((sk T n a) + 1))) 4 (iv (-1))) 5 (iv dp))), (hT, ar 160 T), (hC, ar 1700 C), (hV, ar 1700 V), (hN, ar 5 (uZ Nk tx k))]) (by simp only [List.set]; rw [uF_mv (j := 5) (k := 3) (by decide), uF_mv (j := 4) (k := 3) (by decide), uF_same (k := 3)]) ?_
    refine S_aload_n X dX12_compare_39 rfl rfl ?_
    refine S_callv X (hsu h0 hT f T n ((sk T n a) + 1) dp hC hV hN C V Nk tx k hf0 hf1 hf2 hf3 hf4 hf5 (by omega) (by omega) (by omega) (by omega) (by omega)) (is := [0, 1, 2, 3, 4]) rfl (run_V X lkX12_151 0 rfl rfl (is := [0, 1, 2, 3, 4]) (avs := []) (rest := []) rfl rfl (nle rfl) ⟨by simp only [rmD]; omega, by simp only [rmD]; omega⟩ ⟨nle rfl, nle rfl⟩ dX12_compare_40 (by decide) rfl) (fun u_23 hp_24 => ?_)
    rcases hp_24 with ⟨a2_26, fl_27, k2_28, dp2_29, C2_30, V2_31, hu_33, hq_34, hfl_35, hr_36, hfC_37, hfV_38⟩ | ⟨a2_39, ts_40, hu_42, hq_43⟩
    ·
      subst hu_33
      refine ⟨rfl, ?_⟩
      refine S_w (ws' := [(h0, ob 11 (uF (uF (uF f 3 (iv a2_26)) 4 (iv fl_27)) 5 (iv dp2_29))), (hT, ar 160 T), (hC, ar 1700 C2_30), (hV, ar 1700 V2_31), (hN, ar 5 (uZ Nk tx k2_28))]) rfl ?_
      refine S_aload_n X dX12_compare_43 rfl rfl ?_
      refine S_iload_n X dX12_compare_44 rfl rfl ?_
      refine S_bipush X dX12_compare_45 rfl ?_
      refine S_icmp_ne (tgt := 55) X dX12_compare_47 (by decide) (by omega) (by decide) (fun c_44 => ?_) (fun c_44 => ?_)
      ·
        refine S_iload_n X dX12_compare_55 rfl rfl ?_
        refine S_bipush X dX12_compare_56 rfl ?_
        refine S_icmp_ne (tgt := 66) X dX12_compare_58 (by decide) (by omega) (by decide) (fun c_45 => ?_) (fun c_45 => ?_)
        ·
          refine S_bipush X dX12_compare_66 rfl ?_
          refine S_iconst X dX12_compare_68 ?_
          refine S_callv X (kX12_put l h0 f a2_26 fl_27 dp2_29 hC hV hN C2_30 V2_31 Nk tx k2_28 8 0 hf2 hf3 hf4 hf5 (by omega) (by omega)) (is := [0, 2, 3, 4]) rfl (run_V X lkX12_140 0 rfl rfl (is := [0, 2, 3, 4]) (avs := [iv 8, iv 0]) (rest := []) rfl rfl (nle rfl) ⟨by simp only [rmD]; omega, by simp only [rmD]; omega⟩ ⟨nle rfl, nle rfl⟩ dX12_compare_69 (by decide) rfl) (fun u_46 hp_47 => ?_)
          have hu_50 := hp_47
          subst hu_50
          refine ⟨rfl, ?_⟩
          refine S_w (ws' := [(h0, ob 11 (uF (uF (uF f 3 (iv a2_26)) 4 (iv fl_27)) 5 (iv dp2_29))), (hT, ar 160 T), (hC, ar 1700 (uZ C2_30 (340 * tx + k2_28) 8)), (hV, ar 1700 (uZ V2_31 (340 * tx + k2_28) 0)), (hN, ar 5 (uZ Nk tx (k2_28 + 1)))]) rfl ?_
          exact S_vret X (nle rfl) (nle rfl) dX12_compare_72 (hPo _ (Or.inl ⟨_, _, _, _, _, _, rfl, cmp_f (by omega) hq_34, by omega, by omega, by first | exact frm_0 | assumption | exact frm_r (by omega) (by omega) | exact frm_w (by assumption) (by omega) (by omega) | exact frm_p frm_0 (by omega) | exact frm_p (by assumption) (by omega) | exact frm_p (frm_w (by assumption) (by omega) (by omega)) (by omega), by first | exact frm_0 | assumption | exact frm_r (by omega) (by omega) | exact frm_w (by assumption) (by omega) (by omega) | exact frm_p frm_0 (by omega) | exact frm_p (by assumption) (by omega) | exact frm_p (frm_w (by assumption) (by omega) (by omega)) (by omega)⟩))
        ·
          refine S_bipush X dX12_compare_61 rfl ?_
          refine S_goto (tgt := 68) X dX12_compare_63 (by decide) ?_
          refine S_iconst X dX12_compare_68 ?_
          refine S_callv X (kX12_put l h0 f a2_26 fl_27 dp2_29 hC hV hN C2_30 V2_31 Nk tx k2_28 7 0 hf2 hf3 hf4 hf5 (by omega) (by omega)) (is := [0, 2, 3, 4]) rfl (run_V X lkX12_140 0 rfl rfl (is := [0, 2, 3, 4]) (avs := [iv 7, iv 0]) (rest := []) rfl rfl (nle rfl) ⟨by simp only [rmD]; omega, by simp only [rmD]; omega⟩ ⟨nle rfl, nle rfl⟩ dX12_compare_69 (by decide) rfl) (fun u_51 hp_52 => ?_)
          have hu_55 := hp_52
          subst hu_55
          refine ⟨rfl, ?_⟩
          refine S_w (ws' := [(h0, ob 11 (uF (uF (uF f 3 (iv a2_26)) 4 (iv fl_27)) 5 (iv dp2_29))), (hT, ar 160 T), (hC, ar 1700 (uZ C2_30 (340 * tx + k2_28) 7)), (hV, ar 1700 (uZ V2_31 (340 * tx + k2_28) 0)), (hN, ar 5 (uZ Nk tx (k2_28 + 1)))]) rfl ?_
          exact S_vret X (nle rfl) (nle rfl) dX12_compare_72 (hPo _ (Or.inl ⟨_, _, _, _, _, _, rfl, cmp_f (by omega) hq_34, by omega, by omega, by first | exact frm_0 | assumption | exact frm_r (by omega) (by omega) | exact frm_w (by assumption) (by omega) (by omega) | exact frm_p frm_0 (by omega) | exact frm_p (by assumption) (by omega) | exact frm_p (frm_w (by assumption) (by omega) (by omega)) (by omega), by first | exact frm_0 | assumption | exact frm_r (by omega) (by omega) | exact frm_w (by assumption) (by omega) (by omega) | exact frm_p frm_0 (by omega) | exact frm_p (by assumption) (by omega) | exact frm_p (frm_w (by assumption) (by omega) (by omega)) (by omega)⟩))
      ·
        refine S_bipush X dX12_compare_50 rfl ?_
        refine S_goto (tgt := 68) X dX12_compare_52 (by decide) ?_
        refine S_iconst X dX12_compare_68 ?_
        refine S_callv X (kX12_put l h0 f a2_26 fl_27 dp2_29 hC hV hN C2_30 V2_31 Nk tx k2_28 6 0 hf2 hf3 hf4 hf5 (by omega) (by omega)) (is := [0, 2, 3, 4]) rfl (run_V X lkX12_140 0 rfl rfl (is := [0, 2, 3, 4]) (avs := [iv 6, iv 0]) (rest := []) rfl rfl (nle rfl) ⟨by simp only [rmD]; omega, by simp only [rmD]; omega⟩ ⟨nle rfl, nle rfl⟩ dX12_compare_69 (by decide) rfl) (fun u_56 hp_57 => ?_)
        have hu_60 := hp_57
        subst hu_60
        refine ⟨rfl, ?_⟩
        refine S_w (ws' := [(h0, ob 11 (uF (uF (uF f 3 (iv a2_26)) 4 (iv fl_27)) 5 (iv dp2_29))), (hT, ar 160 T), (hC, ar 1700 (uZ C2_30 (340 * tx + k2_28) 6)), (hV, ar 1700 (uZ V2_31 (340 * tx + k2_28) 0)), (hN, ar 5 (uZ Nk tx (k2_28 + 1)))]) rfl ?_
        exact S_vret X (nle rfl) (nle rfl) dX12_compare_72 (hPo _ (Or.inl ⟨_, _, _, _, _, _, rfl, cmp_f (by omega) hq_34, by omega, by omega, by first | exact frm_0 | assumption | exact frm_r (by omega) (by omega) | exact frm_w (by assumption) (by omega) (by omega) | exact frm_p frm_0 (by omega) | exact frm_p (by assumption) (by omega) | exact frm_p (frm_w (by assumption) (by omega) (by omega)) (by omega), by first | exact frm_0 | assumption | exact frm_r (by omega) (by omega) | exact frm_w (by assumption) (by omega) (by omega) | exact frm_p frm_0 (by omega) | exact frm_p (by assumption) (by omega) | exact frm_p (frm_w (by assumption) (by omega) (by omega)) (by omega)⟩))
    ·
      subst hu_42
      refine ⟨rfl, ?_⟩
      refine S_w (ws' := [(h0, ob 11 (uF (uF (uF f 3 (iv a2_39)) 4 (iv (-1))) 5 (iv dp))), (hT, ar 160 T), (hC, ar 1700 (wrL C (340 * tx + k) (List.map kC ts_40))), (hV, ar 1700 (wrL V (340 * tx + k) (List.map kV ts_40))), (hN, ar 5 (uZ Nk tx (k + ((ts_40).length : Int))))]) rfl ?_
      have ho_61 := ((pAS_ok (T := T) hn1 K).2 (sk T n a + 1) (by omega) (by omega)).2 _ hq_43
      dsimp only at ho_61
      refine S_aload_n X dX12_compare_43 rfl rfl ?_
      refine S_iload_n X dX12_compare_44 rfl rfl ?_
      refine S_bipush X dX12_compare_45 rfl ?_
      refine S_icmp_ne (tgt := 55) X dX12_compare_47 (by decide) (by omega) (by decide) (fun c_62 => ?_) (fun c_62 => ?_)
      ·
        refine S_iload_n X dX12_compare_55 rfl rfl ?_
        refine S_bipush X dX12_compare_56 rfl ?_
        refine S_icmp_ne (tgt := 66) X dX12_compare_58 (by decide) (by omega) (by decide) (fun c_63 => ?_) (fun c_63 => ?_)
        ·
          refine S_bipush X dX12_compare_66 rfl ?_
          refine S_iconst X dX12_compare_68 ?_
          refine S_callv X (kX12_put l h0 f a2_39 (-1) dp hC hV hN (wrL C (340 * tx + k) (List.map kC ts_40)) (wrL V (340 * tx + k) (List.map kV ts_40)) Nk tx (k + ((ts_40).length : Int)) 8 0 hf2 hf3 hf4 hf5 (by omega) (by omega)) (is := [0, 2, 3, 4]) rfl (run_V X lkX12_140 0 rfl rfl (is := [0, 2, 3, 4]) (avs := [iv 8, iv 0]) (rest := []) rfl rfl (nle rfl) ⟨by simp only [rmD]; omega, by simp only [rmD]; omega⟩ ⟨nle rfl, nle rfl⟩ dX12_compare_69 (by decide) rfl) (fun u_64 hp_65 => ?_)
          have hu_68 := hp_65
          subst hu_68
          refine ⟨rfl, ?_⟩
          refine S_w (ws' := [(h0, ob 11 (uF (uF (uF f 3 (iv a2_39)) 4 (iv (-1))) 5 (iv dp))), (hT, ar 160 T), (hC, ar 1700 (uZ (wrL C (340 * tx + k) (List.map kC ts_40)) (340 * tx + (k + ((ts_40).length : Int))) 8)), (hV, ar 1700 (uZ (wrL V (340 * tx + k) (List.map kV ts_40)) (340 * tx + (k + ((ts_40).length : Int))) 0)), (hN, ar 5 (uZ Nk tx ((k + ((ts_40).length : Int)) + 1)))]) rfl ?_
          refine S_w (ws' := [(h0, ob 11 (uF (uF (uF f 3 (iv a2_39)) 4 (iv (-1))) 5 (iv dp))), (hT, ar 160 T), (hC, ar 1700 (wrL C (340 * tx + k) (List.map kC (ts_40 ++ [-62])))), (hV, ar 1700 (wrL V (340 * tx + k) (List.map kV (ts_40 ++ [-62])))), (hN, ar 5 (uZ Nk tx (k + ((ts_40 ++ [-62]).length : Int))))]) (by rw [rW_put (g := kC) (c0 := 8) (-62) rfl, rW_put (g := kV) (c0 := 0) (-62) rfl, rK_put (-62)]) ?_
          have hln_69 : (((ts_40 ++ [-62]).length : Nat) : Int) = _ := congrArg Nat.cast List.length_append
          rw [Int.natCast_add, List.length_singleton] at hln_69
          exact S_vret X (nle rfl) (nle rfl) dX12_compare_72 (hPo _ (Or.inr ⟨_, _, rfl, by rw [show (-62 : Int) = -ch T n (sk T n a) by omega]; exact cmp_r (by omega) hq_43⟩))
        ·
          refine S_bipush X dX12_compare_61 rfl ?_
          refine S_goto (tgt := 68) X dX12_compare_63 (by decide) ?_
          refine S_iconst X dX12_compare_68 ?_
          refine S_callv X (kX12_put l h0 f a2_39 (-1) dp hC hV hN (wrL C (340 * tx + k) (List.map kC ts_40)) (wrL V (340 * tx + k) (List.map kV ts_40)) Nk tx (k + ((ts_40).length : Int)) 7 0 hf2 hf3 hf4 hf5 (by omega) (by omega)) (is := [0, 2, 3, 4]) rfl (run_V X lkX12_140 0 rfl rfl (is := [0, 2, 3, 4]) (avs := [iv 7, iv 0]) (rest := []) rfl rfl (nle rfl) ⟨by simp only [rmD]; omega, by simp only [rmD]; omega⟩ ⟨nle rfl, nle rfl⟩ dX12_compare_69 (by decide) rfl) (fun u_70 hp_71 => ?_)
          have hu_74 := hp_71
          subst hu_74
          refine ⟨rfl, ?_⟩
          refine S_w (ws' := [(h0, ob 11 (uF (uF (uF f 3 (iv a2_39)) 4 (iv (-1))) 5 (iv dp))), (hT, ar 160 T), (hC, ar 1700 (uZ (wrL C (340 * tx + k) (List.map kC ts_40)) (340 * tx + (k + ((ts_40).length : Int))) 7)), (hV, ar 1700 (uZ (wrL V (340 * tx + k) (List.map kV ts_40)) (340 * tx + (k + ((ts_40).length : Int))) 0)), (hN, ar 5 (uZ Nk tx ((k + ((ts_40).length : Int)) + 1)))]) rfl ?_
          refine S_w (ws' := [(h0, ob 11 (uF (uF (uF f 3 (iv a2_39)) 4 (iv (-1))) 5 (iv dp))), (hT, ar 160 T), (hC, ar 1700 (wrL C (340 * tx + k) (List.map kC (ts_40 ++ [-60])))), (hV, ar 1700 (wrL V (340 * tx + k) (List.map kV (ts_40 ++ [-60])))), (hN, ar 5 (uZ Nk tx (k + ((ts_40 ++ [-60]).length : Int))))]) (by rw [rW_put (g := kC) (c0 := 7) (-60) rfl, rW_put (g := kV) (c0 := 0) (-60) rfl, rK_put (-60)]) ?_
          have hln_75 : (((ts_40 ++ [-60]).length : Nat) : Int) = _ := congrArg Nat.cast List.length_append
          rw [Int.natCast_add, List.length_singleton] at hln_75
          exact S_vret X (nle rfl) (nle rfl) dX12_compare_72 (hPo _ (Or.inr ⟨_, _, rfl, by rw [show (-60 : Int) = -ch T n (sk T n a) by omega]; exact cmp_r (by omega) hq_43⟩))
      ·
        refine S_bipush X dX12_compare_50 rfl ?_
        refine S_goto (tgt := 68) X dX12_compare_52 (by decide) ?_
        refine S_iconst X dX12_compare_68 ?_
        refine S_callv X (kX12_put l h0 f a2_39 (-1) dp hC hV hN (wrL C (340 * tx + k) (List.map kC ts_40)) (wrL V (340 * tx + k) (List.map kV ts_40)) Nk tx (k + ((ts_40).length : Int)) 6 0 hf2 hf3 hf4 hf5 (by omega) (by omega)) (is := [0, 2, 3, 4]) rfl (run_V X lkX12_140 0 rfl rfl (is := [0, 2, 3, 4]) (avs := [iv 6, iv 0]) (rest := []) rfl rfl (nle rfl) ⟨by simp only [rmD]; omega, by simp only [rmD]; omega⟩ ⟨nle rfl, nle rfl⟩ dX12_compare_69 (by decide) rfl) (fun u_76 hp_77 => ?_)
        have hu_80 := hp_77
        subst hu_80
        refine ⟨rfl, ?_⟩
        refine S_w (ws' := [(h0, ob 11 (uF (uF (uF f 3 (iv a2_39)) 4 (iv (-1))) 5 (iv dp))), (hT, ar 160 T), (hC, ar 1700 (uZ (wrL C (340 * tx + k) (List.map kC ts_40)) (340 * tx + (k + ((ts_40).length : Int))) 6)), (hV, ar 1700 (uZ (wrL V (340 * tx + k) (List.map kV ts_40)) (340 * tx + (k + ((ts_40).length : Int))) 0)), (hN, ar 5 (uZ Nk tx ((k + ((ts_40).length : Int)) + 1)))]) rfl ?_
        refine S_w (ws' := [(h0, ob 11 (uF (uF (uF f 3 (iv a2_39)) 4 (iv (-1))) 5 (iv dp))), (hT, ar 160 T), (hC, ar 1700 (wrL C (340 * tx + k) (List.map kC (ts_40 ++ [-61])))), (hV, ar 1700 (wrL V (340 * tx + k) (List.map kV (ts_40 ++ [-61])))), (hN, ar 5 (uZ Nk tx (k + ((ts_40 ++ [-61]).length : Int))))]) (by rw [rW_put (g := kC) (c0 := 6) (-61) rfl, rW_put (g := kV) (c0 := 0) (-61) rfl, rK_put (-61)]) ?_
        have hln_81 : (((ts_40 ++ [-61]).length : Nat) : Int) = _ := congrArg Nat.cast List.length_append
        rw [Int.natCast_add, List.length_singleton] at hln_81
        exact S_vret X (nle rfl) (nle rfl) dX12_compare_72 (hPo _ (Or.inr ⟨_, _, rfl, by rw [show (-61 : Int) = -ch T n (sk T n a) by omega]; exact cmp_r (by omega) hq_43⟩))
end pt_21ref2
/- 22.ref3.lean.txt -/
section pt_22ref3
theorem cond_u {T : Int → Int} {n a e : Int} {k : Nat} (h : pUnit T n k a = .inl e) : pCond T n k a = .inl e := pCond_f h
theorem cond_a {T : Int → Int} {n a b e : Int} {k : Nat} {ts : List Int} (hn : n ≤ 160) (h0 : 0 ≤ b ∧ b ≤ n) (h : pUnit T n k a = .inr (b, ts)) (h2 : loopL T n 38 38 (pUnit T n k) 161 b ts = .inl e) : pCond T n k a = .inl e := by
  rw [pCond_r h, pMore_C hn k b ts h0.1 h0.2, h2]
theorem cond_o {T : Int → Int} {n a b c : Int} {k : Nat} {ts us : List Int} {r : LR} (hn : n ≤ 160) (h0 : 0 ≤ b ∧ b ≤ n) (h : pUnit T n k a = .inr (b, ts)) (h2 : loopL T n 38 38 (pUnit T n k) 161 b ts = .inr (c, us)) (h3 : loopL T n 124 124 (pCj T n k) 161 c us = r) : pCond T n k a = r := by
  rw [pCond_r h, pMore_C hn k b ts h0.1 h0.2, h2]; exact h3
def C_X12_unit (l : Launch) (K : Nat) (d : Nat) : Prop := ∀ (h0 : Nat) (hT : Nat) (f : Nat → AV) (T : Int → Int) (n : Int) (a : Int) (dp : Int) (hC : Nat) (hV : Nat) (hN : Nat) (C : Int → Int) (V : Int → Int) (Nk : Int → Int) (tx : Int) (k : Int), (f 1 = rv hT) → (f 2 = iv n) → (f 6 = rv hC) → (f 7 = rv hV) → (f 8 = rv hN) → (f 14 = iv tx) → (okT T n) → (0 ≤ a ∧ a ≤ n) → (0 ≤ tx ∧ tx ≤ 4) → (0 ≤ k ∧ k ≤ a) → (dp + K = 6 ∧ 0 ≤ dp) → AMv l yX12_unit cX12_unit 2 d 0 0 [rv h0] [(h0, ob 11 (uF (uF (uF f 3 (iv a)) 4 (iv (-1))) 5 (iv dp))), (hT, ar 160 T), (hC, ar 1700 C), (hV, ar 1700 V), (hN, ar 5 (uZ Nk tx k))] (fun u => (∃ a2 : Int, ∃ fl : Int, ∃ k2 : Int, ∃ dp2 : Int, ∃ C2 : Int → Int, ∃ V2 : Int → Int, u = [(h0, ob 11 (uF (uF (uF f 3 (iv a2)) 4 (iv fl)) 5 (iv dp2))), (hT, ar 160 T), (hC, ar 1700 C2), (hV, ar 1700 V2), (hN, ar 5 (uZ Nk tx k2))] ∧ pUnit T n K a = .inl fl ∧ (0 ≤ fl ∧ fl ≤ n) ∧ (a ≤ a2 ∧ a2 ≤ n + K + 1 ∧ k ≤ k2 ∧ k2 - k ≤ a2 - a ∧ dp ≤ dp2 ∧ dp2 ≤ 7) ∧ frm tx C C2 ∧ frm tx V V2) ∨ (∃ a2 : Int, ∃ ts : List Int, u = [(h0, ob 11 (uF (uF (uF f 3 (iv a2)) 4 (iv (-1))) 5 (iv dp))), (hT, ar 160 T), (hC, ar 1700 (wrL C (340 * tx + k) (List.map kC ts))), (hV, ar 1700 (wrL V (340 * tx + k) (List.map kV ts))), (hN, ar 5 (uZ Nk tx (k + ((ts).length : Int))))] ∧ pUnit T n K a = .inr (a2, ts)))
def C_X12_goOnAnd_N (l : Launch) (K : Nat) (d : Nat) : Prop := ∀ (h0 : Nat) (hT : Nat) (f : Nat → AV) (T : Int → Int) (n : Int) (a : Int) (dp : Int) (hC : Nat) (hV : Nat) (hN : Nat) (C : Int → Int) (V : Int → Int) (Nk : Int → Int) (tx : Int) (k : Int) (tl : List Int), (f 1 = rv hT) → (f 2 = iv n) → (f 6 = rv hC) → (f 7 = rv hV) → (f 8 = rv hN) → (f 14 = iv tx) → (okT T n) → (0 ≤ a ∧ a ≤ n) → (0 ≤ tx ∧ tx ≤ 4) → (0 ≤ k ∧ k + (tl.length : Int) ≤ a) → (dp + K = 6 ∧ 0 ≤ dp) → AMv l yX12_goOnAnd cX12_goOnAnd 1 d 0 0 [rv h0] [(h0, ob 11 (uF (uF (uF f 3 (iv a)) 4 (iv (-1))) 5 (iv dp))), (hT, ar 160 T), (hC, ar 1700 (wrL C (340 * tx + k) (List.map kC tl))), (hV, ar 1700 (wrL V (340 * tx + k) (List.map kV tl))), (hN, ar 5 (uZ Nk tx (k + ((tl).length : Int))))] (fun u => (∃ a2 : Int, ∃ fl : Int, ∃ k2 : Int, ∃ dp2 : Int, ∃ C2 : Int → Int, ∃ V2 : Int → Int, u = [(h0, ob 11 (uF (uF (uF f 3 (iv a2)) 4 (iv fl)) 5 (iv dp2))), (hT, ar 160 T), (hC, ar 1700 C2), (hV, ar 1700 V2), (hN, ar 5 (uZ Nk tx k2))] ∧ loopL T n 38 38 (pUnit T n K) 161 a tl = .inl fl ∧ (0 ≤ fl ∧ fl ≤ n) ∧ (a ≤ a2 ∧ a2 ≤ n + K + 1 ∧ k + (tl.length : Int) ≤ k2 ∧ k2 - (k + (tl.length : Int)) ≤ a2 - a ∧ dp ≤ dp2 ∧ dp2 ≤ 7) ∧ frm tx C C2 ∧ frm tx V V2) ∨ (∃ a2 : Int, ∃ ts : List Int, u = [(h0, ob 11 (uF (uF (uF f 3 (iv a2)) 4 (iv (-1))) 5 (iv dp))), (hT, ar 160 T), (hC, ar 1700 (wrL C (340 * tx + k) (List.map kC ts))), (hV, ar 1700 (wrL V (340 * tx + k) (List.map kV ts))), (hN, ar 5 (uZ Nk tx (k + ((ts).length : Int))))] ∧ loopL T n 38 38 (pUnit T n K) 161 a tl = .inr (a2, ts) ∧ (a ≤ a2 ∧ a2 ≤ n ∧ (tl.length : Int) ≤ (ts.length : Int) ∧ (ts.length : Int) - (tl.length : Int) ≤ a2 - a)))
def C_X12_goOnOr_N (l : Launch) (K : Nat) (d : Nat) : Prop := ∀ (h0 : Nat) (hT : Nat) (f : Nat → AV) (T : Int → Int) (n : Int) (a : Int) (dp : Int) (hC : Nat) (hV : Nat) (hN : Nat) (C : Int → Int) (V : Int → Int) (Nk : Int → Int) (tx : Int) (k : Int) (tl : List Int), (f 1 = rv hT) → (f 2 = iv n) → (f 6 = rv hC) → (f 7 = rv hV) → (f 8 = rv hN) → (f 14 = iv tx) → (okT T n) → (0 ≤ a ∧ a ≤ n) → (0 ≤ tx ∧ tx ≤ 4) → (0 ≤ k ∧ k + (tl.length : Int) ≤ a) → (dp + K = 6 ∧ 0 ≤ dp) → AMv l yX12_goOnOr cX12_goOnOr 1 d 0 0 [rv h0] [(h0, ob 11 (uF (uF (uF f 3 (iv a)) 4 (iv (-1))) 5 (iv dp))), (hT, ar 160 T), (hC, ar 1700 (wrL C (340 * tx + k) (List.map kC tl))), (hV, ar 1700 (wrL V (340 * tx + k) (List.map kV tl))), (hN, ar 5 (uZ Nk tx (k + ((tl).length : Int))))] (fun u => (∃ a2 : Int, ∃ fl : Int, ∃ k2 : Int, ∃ dp2 : Int, ∃ C2 : Int → Int, ∃ V2 : Int → Int, u = [(h0, ob 11 (uF (uF (uF f 3 (iv a2)) 4 (iv fl)) 5 (iv dp2))), (hT, ar 160 T), (hC, ar 1700 C2), (hV, ar 1700 V2), (hN, ar 5 (uZ Nk tx k2))] ∧ loopL T n 124 124 (pCj T n K) 161 a tl = .inl fl ∧ (0 ≤ fl ∧ fl ≤ n) ∧ (a ≤ a2 ∧ a2 ≤ n + K + 1 ∧ k + (tl.length : Int) ≤ k2 ∧ k2 - (k + (tl.length : Int)) ≤ a2 - a ∧ dp ≤ dp2 ∧ dp2 ≤ 7) ∧ frm tx C C2 ∧ frm tx V V2) ∨ (∃ a2 : Int, ∃ ts : List Int, u = [(h0, ob 11 (uF (uF (uF f 3 (iv a2)) 4 (iv (-1))) 5 (iv dp))), (hT, ar 160 T), (hC, ar 1700 (wrL C (340 * tx + k) (List.map kC ts))), (hV, ar 1700 (wrL V (340 * tx + k) (List.map kV ts))), (hN, ar 5 (uZ Nk tx (k + ((ts).length : Int))))] ∧ loopL T n 124 124 (pCj T n K) 161 a tl = .inr (a2, ts) ∧ (a ≤ a2 ∧ a2 ≤ n ∧ (tl.length : Int) ≤ (ts.length : Int) ∧ (ts.length : Int) - (tl.length : Int) ≤ a2 - a)))
def C_X12_condition (l : Launch) (K : Nat) (d : Nat) : Prop := ∀ (h0 : Nat) (hT : Nat) (f : Nat → AV) (T : Int → Int) (n : Int) (a : Int) (dp : Int) (hC : Nat) (hV : Nat) (hN : Nat) (C : Int → Int) (V : Int → Int) (Nk : Int → Int) (tx : Int) (k : Int), (f 1 = rv hT) → (f 2 = iv n) → (f 6 = rv hC) → (f 7 = rv hV) → (f 8 = rv hN) → (f 14 = iv tx) → (okT T n) → (0 ≤ a ∧ a ≤ n) → (0 ≤ tx ∧ tx ≤ 4) → (0 ≤ k ∧ k ≤ a) → (dp + K = 6 ∧ 0 ≤ dp) → AMv l yX12_condition cX12_condition 1 d 0 0 [rv h0] [(h0, ob 11 (uF (uF (uF f 3 (iv a)) 4 (iv (-1))) 5 (iv dp))), (hT, ar 160 T), (hC, ar 1700 C), (hV, ar 1700 V), (hN, ar 5 (uZ Nk tx k))] (fun u => (∃ a2 : Int, ∃ fl : Int, ∃ k2 : Int, ∃ dp2 : Int, ∃ C2 : Int → Int, ∃ V2 : Int → Int, u = [(h0, ob 11 (uF (uF (uF f 3 (iv a2)) 4 (iv fl)) 5 (iv dp2))), (hT, ar 160 T), (hC, ar 1700 C2), (hV, ar 1700 V2), (hN, ar 5 (uZ Nk tx k2))] ∧ pCond T n K a = .inl fl ∧ (0 ≤ fl ∧ fl ≤ n) ∧ (a ≤ a2 ∧ a2 ≤ n + K + 1 ∧ k ≤ k2 ∧ k2 - k ≤ a2 - a ∧ dp ≤ dp2 ∧ dp2 ≤ 7) ∧ frm tx C C2 ∧ frm tx V V2) ∨ (∃ a2 : Int, ∃ ts : List Int, u = [(h0, ob 11 (uF (uF (uF f 3 (iv a2)) 4 (iv (-1))) 5 (iv dp))), (hT, ar 160 T), (hC, ar 1700 (wrL C (340 * tx + k) (List.map kC ts))), (hV, ar 1700 (wrL V (340 * tx + k) (List.map kV ts))), (hN, ar 5 (uZ Nk tx (k + ((ts).length : Int))))] ∧ pCond T n K a = .inr (a2, ts)))
set_option maxHeartbeats 4000000 in
set_option maxRecDepth 100000 in
theorem kX12_goOnAnd_E (l : Launch) (h0 : Nat) (f : Nat → AV) (a : Int) (w : Int) (dp : Int) (hw : ¬ w = -1) (hw2 : inR w) : AMv l yX12_goOnAnd cX12_goOnAnd 1 2 0 0 [rv h0] [(h0, ob 11 (uF (uF (uF f 3 (iv a)) 4 (iv w)) 5 (iv dp)))] (fun u => u = [(h0, ob 11 (uF (uF (uF f 3 (iv a)) 4 (iv w)) 5 (iv dp)))]) := by
  refine AMv.of2 rfl (nle rfl) ?_
  intro D G A p e s m args below meth c Po hPo hnm X
  refine S_aload_n X dX12_goOnAnd_0 rfl rfl ?_
  refine S_get (v := iv w) X fgX12_118_11 0 rfl rfl dX12_goOnAnd_1 ?_
  refine S_iconst X dX12_goOnAnd_4 ?_
  refine S_icmp_ne (tgt := 41) X dX12_goOnAnd_5 (by decide) (by omega) (by decide) (fun c_1 => ?_) (fun c_1 => by exfalso; omega)
  exact S_vret X (nle rfl) (nle rfl) dX12_goOnAnd_41 (hPo _ (rfl))
set_option maxHeartbeats 4000000 in
set_option maxRecDepth 100000 in
theorem kX12_goOnOr_E (l : Launch) (h0 : Nat) (f : Nat → AV) (a : Int) (w : Int) (dp : Int) (hw : ¬ w = -1) (hw2 : inR w) : AMv l yX12_goOnOr cX12_goOnOr 1 2 0 0 [rv h0] [(h0, ob 11 (uF (uF (uF f 3 (iv a)) 4 (iv w)) 5 (iv dp)))] (fun u => u = [(h0, ob 11 (uF (uF (uF f 3 (iv a)) 4 (iv w)) 5 (iv dp)))]) := by
  refine AMv.of2 rfl (nle rfl) ?_
  intro D G A p e s m args below meth c Po hPo hnm X
  refine S_aload_n X dX12_goOnOr_0 rfl rfl ?_
  refine S_get (v := iv w) X fgX12_118_11 0 rfl rfl dX12_goOnOr_1 ?_
  refine S_iconst X dX12_goOnOr_4 ?_
  refine S_icmp_ne (tgt := 45) X dX12_goOnOr_5 (by decide) (by omega) (by decide) (fun c_1 => ?_) (fun c_1 => by exfalso; omega)
  exact S_vret X (nle rfl) (nle rfl) dX12_goOnOr_45 (hPo _ (rfl))
set_option maxHeartbeats 4000000 in
set_option maxRecDepth 100000 in
theorem kX12_goOnAnd_N (l : Launch) (K : Nat) (d : Nat) (hd : 5 ≤ d) (d1 : Nat) (hd1 : d1 ≤ d) (hun : C_X12_unit l K d1) : C_X12_goOnAnd_N l K (d + 1) := by
  intro h0 hT f T n a dp hC hV hN C V Nk tx k tl hf0 hf1 hf2 hf3 hf4 hf5 okT ha ht hk hw
  refine AMv.of2 rfl (nle rfl) ?_
  intro D G A p e s m args below meth c Po hPo hnm X
  obtain ⟨hn0, hn1, hT2⟩ := id okT
  have hsk := sk_in (T := T) ha.2
  have hcm := chM_or okT (a := sk T n a) (by omega) (by omega)
  refine S_aload_n X dX12_goOnAnd_0 rfl rfl ?_
  refine S_get (v := iv (-1)) X fgX12_118_11 0 rfl rfl dX12_goOnAnd_1 ?_
  refine S_iconst X dX12_goOnAnd_4 ?_
  refine S_icmp_ne (tgt := 41) X dX12_goOnAnd_5 (by decide) (by decide) (by decide) (fun h9 => absurd h9 (by decide)) (fun _ => ?_)
  refine S_aload_n X dX12_goOnAnd_8 rfl rfl ?_
  refine S_calli X (kX12_look l h0 hT f T n a (-1) dp hf0 hf1 (by omega) (by omega)) (is := [0, 1]) rfl (run_V X lkX12_130 0 rfl rfl (is := [0, 1]) (avs := []) (rest := []) rfl rfl (nle rfl) ⟨by simp only [rmD]; omega, by simp only [rmD]; omega⟩ ⟨nle rfl, nle rfl⟩ dX12_goOnAnd_9 (by decide) rfl) (fun z_4 u_2 hp_3 => ?_)
  obtain ⟨hz_5, hu_6⟩ := hp_3
  subst hz_5
  subst hu_6
  refine ⟨rfl, ?_⟩
  refine S_w (ws' := [(h0, ob 11 (uF (uF (uF f 3 (iv (sk T n a))) 4 (iv (-1))) 5 (iv dp))), (hT, ar 160 T), (hC, ar 1700 (wrL C (340 * tx + k) (List.map kC tl))), (hV, ar 1700 (wrL V (340 * tx + k) (List.map kV tl))), (hN, ar 5 (uZ Nk tx (k + ((tl).length : Int))))]) rfl ?_
  have hsk_7 := sk_in (T := T) (n := n) (a := a) (by omega)
  have hcm_7 := chM_or okT (a := sk T n a) (by omega) (by omega)
  refine S_bipush X dX12_goOnAnd_12 rfl ?_
  refine S_icmp_ne (tgt := 41) X dX12_goOnAnd_14 (by decide) (by omega) (by decide) (fun c_8 => ?_) (fun c_8 => ?_)
  ·
    exact S_vret X (nle rfl) (nle rfl) dX12_goOnAnd_41 (hPo _ (Or.inr ⟨_, _, rfl, lpE (by omega) (by omega), by omega⟩))
  ·
    have lp17_1 : ∀ (N : Nat) (a1 : Int) (acc : List Int) (L : Nat → Option AV), a ≤ a1 ∧ a1 ≤ n → sk T n a1 < n → ch T n (sk T n a1) = 38 → (tl.length : Int) ≤ (acc.length : Int) ∧ (acc.length : Int) - (tl.length : Int) ≤ a1 - a → (∃ f : Nat, 161 - a1 ≤ f ∧ loopL T n 38 38 (pUnit T n K) f a1 acc = loopL T n 38 38 (pUnit T n K) 161 a tl) → L 0 = some (rv h0) → 161 - a1 < (N : Int) → S_ p l e (rmD (d + 1) 0 0) s m args below meth c (MQ below (QcV D G A Po) args s 0 0 A) D G A 1 0 0 17 L [] [(h0, ob 11 (uF (uF (uF f 3 (iv (sk T n a1))) 4 (iv (-1))) 5 (iv dp))), (hT, ar 160 T), (hC, ar 1700 (wrL C (340 * tx + k) (List.map kC acc))), (hV, ar 1700 (wrL V (340 * tx + k) (List.map kV acc))), (hN, ar 5 (uZ Nk tx (k + ((acc).length : Int))))] := by
      intro N
      induction N with
      | zero =>
        intro a1 acc L17 hi hlt hc1 hbd hkl hL17_0 hN17
        exfalso; omega
      | succ N ih17 =>
        intro a1 acc L17 hi hlt hc1 hbd hkl hL17_0 hN17
        obtain ⟨f9, hf9, hk9⟩ := hkl
        obtain ⟨g9, rfl⟩ : ∃ g, f9 = g + 1 := ⟨f9 - 1, by omega⟩
        have hsk1 := sk_in (T := T) (n := n) (a := a1) (by omega)
        refine S_aload_n X dX12_goOnAnd_17 rfl hL17_0 ?_
        refine S_dup X dX12_goOnAnd_18 ?_
        refine S_get (v := iv (sk T n a1)) X fgX12_111_11 0 rfl rfl dX12_goOnAnd_19 ?_
        refine S_iconst X dX12_goOnAnd_22 ?_
        refine S_iadd X dX12_goOnAnd_23 ?_
        refine S_put X fpX12_111_11 0 rfl FT_i dX12_goOnAnd_24 ?_
        refine S_w (ws' := [(h0, ob 11 (uF (uF (uF f 3 (iv ((sk T n a1) + 1))) 4 (iv (-1))) 5 (iv dp))), (hT, ar 160 T), (hC, ar 1700 (wrL C (340 * tx + k) (List.map kC acc))), (hV, ar 1700 (wrL V (340 * tx + k) (List.map kV acc))), (hN, ar 5 (uZ Nk tx (k + ((acc).length : Int))))]) (by simp only [List.set]; rw [uF_mv (j := 5) (k := 3) (by decide), uF_mv (j := 4) (k := 3) (by decide), uF_same (k := 3)]) ?_
        refine S_aload_n X dX12_goOnAnd_27 rfl hL17_0 ?_
        refine S_callv X (hun h0 hT f T n ((sk T n a1) + 1) dp hC hV hN (wrL C (340 * tx + k) (List.map kC acc)) (wrL V (340 * tx + k) (List.map kV acc)) Nk tx (k + ((acc).length : Int)) hf0 hf1 hf2 hf3 hf4 hf5 (by omega) (by omega) (by omega) (by omega) (by omega)) (is := [0, 1, 2, 3, 4]) rfl (run_V X lkX12_167 0 rfl rfl (is := [0, 1, 2, 3, 4]) (avs := []) (rest := []) rfl rfl (nle rfl) ⟨by simp only [rmD]; omega, by simp only [rmD]; omega⟩ ⟨nle rfl, nle rfl⟩ dX12_goOnAnd_28 (by decide) rfl) (fun u_9 hp_10 => ?_)
        rcases hp_10 with ⟨a2_12, fl_13, k2_14, dp2_15, C2_16, V2_17, hu_19, hq_20, hfl_21, hr_22, hfC_23, hfV_24⟩ | ⟨a2_25, ts_26, hu_28, hq_29⟩
        ·
          subst hu_19
          refine ⟨rfl, ?_⟩
          refine S_w (ws' := [(h0, ob 11 (uF (uF (uF f 3 (iv a2_12)) 4 (iv fl_13)) 5 (iv dp2_15))), (hT, ar 160 T), (hC, ar 1700 C2_16), (hV, ar 1700 V2_17), (hN, ar 5 (uZ Nk tx k2_14))]) rfl ?_
          refine S_aload_n X dX12_goOnAnd_31 rfl hL17_0 ?_
          refine S_bipush X dX12_goOnAnd_32 rfl ?_
          refine S_iconst X dX12_goOnAnd_34 ?_
          refine S_callv X (kX12_put l h0 f a2_12 fl_13 dp2_15 hC hV hN C2_16 V2_17 Nk tx k2_14 10 0 hf2 hf3 hf4 hf5 (by omega) (by omega)) (is := [0, 2, 3, 4]) rfl (run_V X lkX12_140 0 rfl rfl (is := [0, 2, 3, 4]) (avs := [iv 10, iv 0]) (rest := []) rfl rfl (nle rfl) ⟨by simp only [rmD]; omega, by simp only [rmD]; omega⟩ ⟨nle rfl, nle rfl⟩ dX12_goOnAnd_35 (by decide) rfl) (fun u_30 hp_31 => ?_)
          have hu_34 := hp_31
          subst hu_34
          refine ⟨rfl, ?_⟩
          refine S_w (ws' := [(h0, ob 11 (uF (uF (uF f 3 (iv a2_12)) 4 (iv fl_13)) 5 (iv dp2_15))), (hT, ar 160 T), (hC, ar 1700 (uZ C2_16 (340 * tx + k2_14) 10)), (hV, ar 1700 (uZ V2_17 (340 * tx + k2_14) 0)), (hN, ar 5 (uZ Nk tx (k2_14 + 1)))]) rfl ?_
          refine S_goto (tgt := 0) X dX12_goOnAnd_38 (by decide) ?_
          refine S_aload_n X dX12_goOnAnd_0 rfl hL17_0 ?_
          refine S_get (v := iv fl_13) X fgX12_118_11 0 rfl rfl dX12_goOnAnd_1 ?_
          refine S_iconst X dX12_goOnAnd_4 ?_
          refine S_icmp_ne (tgt := 41) X dX12_goOnAnd_5 (by decide) (by omega) (by decide) (fun c_35 => ?_) (fun c_35 => by exfalso; omega)
          exact S_vret X (nle rfl) (nle rfl) dX12_goOnAnd_41 (hPo _ (Or.inl ⟨_, _, _, _, _, _, rfl, hk9.symm.trans (loopL_f (by omega) hq_20), by omega, by omega, by first | exact frm_0 | assumption | exact frm_r (by omega) (by omega) | exact frm_w (by assumption) (by omega) (by omega) | exact frm_p frm_0 (by omega) | exact frm_p (by assumption) (by omega) | exact frm_p (frm_w (by assumption) (by omega) (by omega)) (by omega), by first | exact frm_0 | assumption | exact frm_r (by omega) (by omega) | exact frm_w (by assumption) (by omega) (by omega) | exact frm_p frm_0 (by omega) | exact frm_p (by assumption) (by omega) | exact frm_p (frm_w (by assumption) (by omega) (by omega)) (by omega)⟩))
        ·
          subst hu_28
          refine ⟨rfl, ?_⟩
          refine S_w (ws' := [(h0, ob 11 (uF (uF (uF f 3 (iv a2_25)) 4 (iv (-1))) 5 (iv dp))), (hT, ar 160 T), (hC, ar 1700 (wrL (wrL C (340 * tx + k) (List.map kC acc)) (340 * tx + (k + ((acc).length : Int))) (List.map kC ts_26))), (hV, ar 1700 (wrL (wrL V (340 * tx + k) (List.map kV acc)) (340 * tx + (k + ((acc).length : Int))) (List.map kV ts_26))), (hN, ar 5 (uZ Nk tx ((k + ((acc).length : Int)) + ((ts_26).length : Int))))]) rfl ?_
          refine S_w (ws' := [(h0, ob 11 (uF (uF (uF f 3 (iv a2_25)) 4 (iv (-1))) 5 (iv dp))), (hT, ar 160 T), (hC, ar 1700 (wrL C (340 * tx + k) (List.map kC (acc ++ ts_26)))), (hV, ar 1700 (wrL V (340 * tx + k) (List.map kV (acc ++ ts_26)))), (hN, ar 5 (uZ Nk tx (k + ((acc ++ ts_26).length : Int))))]) (by simp only [rW_app, rK_app]) ?_
          have ho_36 := (pUnit_ok (T := T) hn1 K (sk T n a1 + 1) (by omega) (by omega)).2 _ hq_29
          dsimp only at ho_36
          have hln_36 : (((acc ++ ts_26).length : Nat) : Int) = _ := congrArg Nat.cast List.length_append
          rw [Int.natCast_add] at hln_36
          refine S_aload_n X dX12_goOnAnd_31 rfl hL17_0 ?_
          refine S_bipush X dX12_goOnAnd_32 rfl ?_
          refine S_iconst X dX12_goOnAnd_34 ?_
          refine S_callv X (kX12_put l h0 f a2_25 (-1) dp hC hV hN (wrL C (340 * tx + k) (List.map kC (acc ++ ts_26))) (wrL V (340 * tx + k) (List.map kV (acc ++ ts_26))) Nk tx (k + ((acc ++ ts_26).length : Int)) 10 0 hf2 hf3 hf4 hf5 (by omega) (by omega)) (is := [0, 2, 3, 4]) rfl (run_V X lkX12_140 0 rfl rfl (is := [0, 2, 3, 4]) (avs := [iv 10, iv 0]) (rest := []) rfl rfl (nle rfl) ⟨by simp only [rmD]; omega, by simp only [rmD]; omega⟩ ⟨nle rfl, nle rfl⟩ dX12_goOnAnd_35 (by decide) rfl) (fun u_37 hp_38 => ?_)
          have hu_41 := hp_38
          subst hu_41
          refine ⟨rfl, ?_⟩
          refine S_w (ws' := [(h0, ob 11 (uF (uF (uF f 3 (iv a2_25)) 4 (iv (-1))) 5 (iv dp))), (hT, ar 160 T), (hC, ar 1700 (uZ (wrL C (340 * tx + k) (List.map kC (acc ++ ts_26))) (340 * tx + (k + ((acc ++ ts_26).length : Int))) 10)), (hV, ar 1700 (uZ (wrL V (340 * tx + k) (List.map kV (acc ++ ts_26))) (340 * tx + (k + ((acc ++ ts_26).length : Int))) 0)), (hN, ar 5 (uZ Nk tx ((k + ((acc ++ ts_26).length : Int)) + 1)))]) rfl ?_
          refine S_w (ws' := [(h0, ob 11 (uF (uF (uF f 3 (iv a2_25)) 4 (iv (-1))) 5 (iv dp))), (hT, ar 160 T), (hC, ar 1700 (wrL C (340 * tx + k) (List.map kC (acc ++ ts_26 ++ [-38])))), (hV, ar 1700 (wrL V (340 * tx + k) (List.map kV (acc ++ ts_26 ++ [-38])))), (hN, ar 5 (uZ Nk tx (k + ((acc ++ ts_26 ++ [-38]).length : Int))))]) (by rw [rW_put (g := kC) (c0 := 10) (-38) rfl, rW_put (g := kV) (c0 := 0) (-38) rfl, rK_put (-38)]) ?_
          have hln_42 : (((acc ++ ts_26 ++ [-38]).length : Nat) : Int) = _ := congrArg Nat.cast List.length_append
          rw [Int.natCast_add, List.length_singleton] at hln_42
          have hkk_43 := (lpS (f := g9) (acc := acc) (show ch T n (sk T n a1) = 38 by omega) (by omega) hq_29).symm.trans hk9
          refine S_goto (tgt := 0) X dX12_goOnAnd_38 (by decide) ?_
          refine S_aload_n X dX12_goOnAnd_0 rfl hL17_0 ?_
          refine S_get (v := iv (-1)) X fgX12_118_11 0 rfl rfl dX12_goOnAnd_1 ?_
          refine S_iconst X dX12_goOnAnd_4 ?_
          refine S_icmp_ne (tgt := 41) X dX12_goOnAnd_5 (by decide) (by decide) (by decide) (fun h9 => absurd h9 (by decide)) (fun _ => ?_)
          refine S_aload_n X dX12_goOnAnd_8 rfl hL17_0 ?_
          refine S_calli X (kX12_look l h0 hT f T n a2_25 (-1) dp hf0 hf1 (by omega) (by omega)) (is := [0, 1]) rfl (run_V X lkX12_130 0 rfl rfl (is := [0, 1]) (avs := []) (rest := []) rfl rfl (nle rfl) ⟨by simp only [rmD]; omega, by simp only [rmD]; omega⟩ ⟨nle rfl, nle rfl⟩ dX12_goOnAnd_9 (by decide) rfl) (fun z_47 u_45 hp_46 => ?_)
          obtain ⟨hz_48, hu_49⟩ := hp_46
          subst hz_48
          subst hu_49
          refine ⟨rfl, ?_⟩
          refine S_w (ws' := [(h0, ob 11 (uF (uF (uF f 3 (iv (sk T n a2_25))) 4 (iv (-1))) 5 (iv dp))), (hT, ar 160 T), (hC, ar 1700 (wrL C (340 * tx + k) (List.map kC (acc ++ ts_26 ++ [-38])))), (hV, ar 1700 (wrL V (340 * tx + k) (List.map kV (acc ++ ts_26 ++ [-38])))), (hN, ar 5 (uZ Nk tx (k + ((acc ++ ts_26 ++ [-38]).length : Int))))]) rfl ?_
          have hsk_50 := sk_in (T := T) (n := n) (a := a2_25) (by omega)
          have hcm_50 := chM_or okT (a := sk T n a2_25) (by omega) (by omega)
          refine S_bipush X dX12_goOnAnd_12 rfl ?_
          refine S_icmp_ne (tgt := 41) X dX12_goOnAnd_14 (by decide) (by omega) (by decide) (fun c_51 => ?_) (fun c_51 => ?_)
          ·
            exact S_vret X (nle rfl) (nle rfl) dX12_goOnAnd_41 (hPo _ (Or.inr ⟨_, _, rfl, hkk_43.symm.trans (lpE (by omega) (by omega)), by omega⟩))
          ·
            exact ih17 a2_25 (acc ++ ts_26 ++ [-38]) _ (by omega) (by omega) (by omega) (by omega) (⟨g9, by omega, hkk_43⟩) hL17_0 (by omega)
    exact lp17_1 (Int.toNat (161 - a) + 1) a tl _ (by omega) (by omega) (by omega) (by omega) (⟨161, by omega, rfl⟩) rfl (by omega)
set_option maxHeartbeats 4000000 in
set_option maxRecDepth 100000 in
theorem kX12_goOnOr_N (l : Launch) (K : Nat) (d : Nat) (hd : 5 ≤ d) (d1 : Nat) (hd1 : d1 ≤ d) (hun : C_X12_unit l K d1) (d2 : Nat) (hd2 : d2 ≤ d) (han : C_X12_goOnAnd_N l K d2) : C_X12_goOnOr_N l K (d + 1) := by
  intro h0 hT f T n a dp hC hV hN C V Nk tx k tl hf0 hf1 hf2 hf3 hf4 hf5 okT ha ht hk hw
  refine AMv.of2 rfl (nle rfl) ?_
  intro D G A p e s m args below meth c Po hPo hnm X
  obtain ⟨hn0, hn1, hT2⟩ := id okT
  have hsk := sk_in (T := T) ha.2
  have hcm := chM_or okT (a := sk T n a) (by omega) (by omega)
  refine S_aload_n X dX12_goOnOr_0 rfl rfl ?_
  refine S_get (v := iv (-1)) X fgX12_118_11 0 rfl rfl dX12_goOnOr_1 ?_
  refine S_iconst X dX12_goOnOr_4 ?_
  refine S_icmp_ne (tgt := 45) X dX12_goOnOr_5 (by decide) (by decide) (by decide) (fun h9 => absurd h9 (by decide)) (fun _ => ?_)
  refine S_aload_n X dX12_goOnOr_8 rfl rfl ?_
  refine S_calli X (kX12_look l h0 hT f T n a (-1) dp hf0 hf1 (by omega) (by omega)) (is := [0, 1]) rfl (run_V X lkX12_130 0 rfl rfl (is := [0, 1]) (avs := []) (rest := []) rfl rfl (nle rfl) ⟨by simp only [rmD]; omega, by simp only [rmD]; omega⟩ ⟨nle rfl, nle rfl⟩ dX12_goOnOr_9 (by decide) rfl) (fun z_4 u_2 hp_3 => ?_)
  obtain ⟨hz_5, hu_6⟩ := hp_3
  subst hz_5
  subst hu_6
  refine ⟨rfl, ?_⟩
  refine S_w (ws' := [(h0, ob 11 (uF (uF (uF f 3 (iv (sk T n a))) 4 (iv (-1))) 5 (iv dp))), (hT, ar 160 T), (hC, ar 1700 (wrL C (340 * tx + k) (List.map kC tl))), (hV, ar 1700 (wrL V (340 * tx + k) (List.map kV tl))), (hN, ar 5 (uZ Nk tx (k + ((tl).length : Int))))]) rfl ?_
  have hsk_7 := sk_in (T := T) (n := n) (a := a) (by omega)
  have hcm_7 := chM_or okT (a := sk T n a) (by omega) (by omega)
  refine S_bipush X dX12_goOnOr_12 rfl ?_
  refine S_icmp_ne (tgt := 45) X dX12_goOnOr_14 (by decide) (by omega) (by decide) (fun c_8 => ?_) (fun c_8 => ?_)
  ·
    exact S_vret X (nle rfl) (nle rfl) dX12_goOnOr_45 (hPo _ (Or.inr ⟨_, _, rfl, lpE (by omega) (by omega), by omega⟩))
  ·
    have lp17_1 : ∀ (N : Nat) (a1 : Int) (acc : List Int) (L : Nat → Option AV), a ≤ a1 ∧ a1 ≤ n → sk T n a1 < n → ch T n (sk T n a1) = 124 → (tl.length : Int) ≤ (acc.length : Int) ∧ (acc.length : Int) - (tl.length : Int) ≤ a1 - a → (∃ f : Nat, 161 - a1 ≤ f ∧ loopL T n 124 124 (pCj T n K) f a1 acc = loopL T n 124 124 (pCj T n K) 161 a tl) → L 0 = some (rv h0) → 161 - a1 < (N : Int) → S_ p l e (rmD (d + 1) 0 0) s m args below meth c (MQ below (QcV D G A Po) args s 0 0 A) D G A 1 0 0 17 L [] [(h0, ob 11 (uF (uF (uF f 3 (iv (sk T n a1))) 4 (iv (-1))) 5 (iv dp))), (hT, ar 160 T), (hC, ar 1700 (wrL C (340 * tx + k) (List.map kC acc))), (hV, ar 1700 (wrL V (340 * tx + k) (List.map kV acc))), (hN, ar 5 (uZ Nk tx (k + ((acc).length : Int))))] := by
      intro N
      induction N with
      | zero =>
        intro a1 acc L17 hi hlt hc1 hbd hkl hL17_0 hN17
        exfalso; omega
      | succ N ih17 =>
        intro a1 acc L17 hi hlt hc1 hbd hkl hL17_0 hN17
        obtain ⟨f9, hf9, hk9⟩ := hkl
        obtain ⟨g9, rfl⟩ : ∃ g, f9 = g + 1 := ⟨f9 - 1, by omega⟩
        have hsk1 := sk_in (T := T) (n := n) (a := a1) (by omega)
        refine S_aload_n X dX12_goOnOr_17 rfl hL17_0 ?_
        refine S_dup X dX12_goOnOr_18 ?_
        refine S_get (v := iv (sk T n a1)) X fgX12_111_11 0 rfl rfl dX12_goOnOr_19 ?_
        refine S_iconst X dX12_goOnOr_22 ?_
        refine S_iadd X dX12_goOnOr_23 ?_
        refine S_put X fpX12_111_11 0 rfl FT_i dX12_goOnOr_24 ?_
        refine S_w (ws' := [(h0, ob 11 (uF (uF (uF f 3 (iv ((sk T n a1) + 1))) 4 (iv (-1))) 5 (iv dp))), (hT, ar 160 T), (hC, ar 1700 (wrL C (340 * tx + k) (List.map kC acc))), (hV, ar 1700 (wrL V (340 * tx + k) (List.map kV acc))), (hN, ar 5 (uZ Nk tx (k + ((acc).length : Int))))]) (by simp only [List.set]; rw [uF_mv (j := 5) (k := 3) (by decide), uF_mv (j := 4) (k := 3) (by decide), uF_same (k := 3)]) ?_
        refine S_aload_n X dX12_goOnOr_27 rfl hL17_0 ?_
        refine S_callv X (hun h0 hT f T n ((sk T n a1) + 1) dp hC hV hN (wrL C (340 * tx + k) (List.map kC acc)) (wrL V (340 * tx + k) (List.map kV acc)) Nk tx (k + ((acc).length : Int)) hf0 hf1 hf2 hf3 hf4 hf5 (by omega) (by omega) (by omega) (by omega) (by omega)) (is := [0, 1, 2, 3, 4]) rfl (run_V X lkX12_167 0 rfl rfl (is := [0, 1, 2, 3, 4]) (avs := []) (rest := []) rfl rfl (nle rfl) ⟨by simp only [rmD]; omega, by simp only [rmD]; omega⟩ ⟨nle rfl, nle rfl⟩ dX12_goOnOr_28 (by decide) rfl) (fun u_9 hp_10 => ?_)
        rcases hp_10 with ⟨a2_12, fl_13, k2_14, dp2_15, C2_16, V2_17, hu_19, hq_20, hfl_21, hr_22, hfC_23, hfV_24⟩ | ⟨a2_25, ts_26, hu_28, hq_29⟩
        ·
          subst hu_19
          refine ⟨rfl, ?_⟩
          refine S_w (ws' := [(h0, ob 11 (uF (uF (uF f 3 (iv a2_12)) 4 (iv fl_13)) 5 (iv dp2_15))), (hT, ar 160 T), (hC, ar 1700 C2_16), (hV, ar 1700 V2_17), (hN, ar 5 (uZ Nk tx k2_14))]) rfl ?_
          refine S_aload_n X dX12_goOnOr_31 rfl hL17_0 ?_
          refine S_callv X (kX12_goOnAnd_E l h0 f a2_12 fl_13 dp2_15 (by omega) (by omega)) (is := [0]) rfl (run_V X lkX12_176 0 rfl rfl (is := [0]) (avs := []) (rest := []) rfl rfl (nle rfl) ⟨by simp only [rmD]; omega, by simp only [rmD]; omega⟩ ⟨nle rfl, nle rfl⟩ dX12_goOnOr_32 (by decide) rfl) (fun u_30 hp_31 => ?_)
          have hu_34 := hp_31
          subst hu_34
          refine ⟨rfl, ?_⟩
          refine S_w (ws' := [(h0, ob 11 (uF (uF (uF f 3 (iv a2_12)) 4 (iv fl_13)) 5 (iv dp2_15))), (hT, ar 160 T), (hC, ar 1700 C2_16), (hV, ar 1700 V2_17), (hN, ar 5 (uZ Nk tx k2_14))]) rfl ?_
          refine S_aload_n X dX12_goOnOr_35 rfl hL17_0 ?_
          refine S_bipush X dX12_goOnOr_36 rfl ?_
          refine S_iconst X dX12_goOnOr_38 ?_
          refine S_callv X (kX12_put l h0 f a2_12 fl_13 dp2_15 hC hV hN C2_16 V2_17 Nk tx k2_14 11 0 hf2 hf3 hf4 hf5 (by omega) (by omega)) (is := [0, 2, 3, 4]) rfl (run_V X lkX12_140 0 rfl rfl (is := [0, 2, 3, 4]) (avs := [iv 11, iv 0]) (rest := []) rfl rfl (nle rfl) ⟨by simp only [rmD]; omega, by simp only [rmD]; omega⟩ ⟨nle rfl, nle rfl⟩ dX12_goOnOr_39 (by decide) rfl) (fun u_35 hp_36 => ?_)
          have hu_39 := hp_36
          subst hu_39
          refine ⟨rfl, ?_⟩
          refine S_w (ws' := [(h0, ob 11 (uF (uF (uF f 3 (iv a2_12)) 4 (iv fl_13)) 5 (iv dp2_15))), (hT, ar 160 T), (hC, ar 1700 (uZ C2_16 (340 * tx + k2_14) 11)), (hV, ar 1700 (uZ V2_17 (340 * tx + k2_14) 0)), (hN, ar 5 (uZ Nk tx (k2_14 + 1)))]) rfl ?_
          refine S_goto (tgt := 0) X dX12_goOnOr_42 (by decide) ?_
          refine S_aload_n X dX12_goOnOr_0 rfl hL17_0 ?_
          refine S_get (v := iv fl_13) X fgX12_118_11 0 rfl rfl dX12_goOnOr_1 ?_
          refine S_iconst X dX12_goOnOr_4 ?_
          refine S_icmp_ne (tgt := 45) X dX12_goOnOr_5 (by decide) (by omega) (by decide) (fun c_40 => ?_) (fun c_40 => by exfalso; omega)
          exact S_vret X (nle rfl) (nle rfl) dX12_goOnOr_45 (hPo _ (Or.inl ⟨_, _, _, _, _, _, rfl, hk9.symm.trans (loopL_f (by omega) (seqG_f hq_20)), by omega, by omega, by first | exact frm_0 | assumption | exact frm_r (by omega) (by omega) | exact frm_w (by assumption) (by omega) (by omega) | exact frm_p frm_0 (by omega) | exact frm_p (by assumption) (by omega) | exact frm_p (frm_w (by assumption) (by omega) (by omega)) (by omega), by first | exact frm_0 | assumption | exact frm_r (by omega) (by omega) | exact frm_w (by assumption) (by omega) (by omega) | exact frm_p frm_0 (by omega) | exact frm_p (by assumption) (by omega) | exact frm_p (frm_w (by assumption) (by omega) (by omega)) (by omega)⟩))
        ·
          subst hu_28
          refine ⟨rfl, ?_⟩
          refine S_w (ws' := [(h0, ob 11 (uF (uF (uF f 3 (iv a2_25)) 4 (iv (-1))) 5 (iv dp))), (hT, ar 160 T), (hC, ar 1700 (wrL (wrL C (340 * tx + k) (List.map kC acc)) (340 * tx + (k + ((acc).length : Int))) (List.map kC ts_26))), (hV, ar 1700 (wrL (wrL V (340 * tx + k) (List.map kV acc)) (340 * tx + (k + ((acc).length : Int))) (List.map kV ts_26))), (hN, ar 5 (uZ Nk tx ((k + ((acc).length : Int)) + ((ts_26).length : Int))))]) rfl ?_
          have ho_41 := (pUnit_ok (T := T) hn1 K (sk T n a1 + 1) (by omega) (by omega)).2 _ hq_29
          dsimp only at ho_41
          refine S_aload_n X dX12_goOnOr_31 rfl hL17_0 ?_
          refine S_callv X (han h0 hT f T n a2_25 dp hC hV hN (wrL C (340 * tx + k) (List.map kC acc)) (wrL V (340 * tx + k) (List.map kV acc)) Nk tx (k + ((acc).length : Int)) ts_26 hf0 hf1 hf2 hf3 hf4 hf5 (by omega) (by omega) (by omega) (by omega) (by omega)) (is := [0, 1, 2, 3, 4]) rfl (run_V X lkX12_176 0 rfl rfl (is := [0, 1, 2, 3, 4]) (avs := []) (rest := []) rfl rfl (nle rfl) ⟨by simp only [rmD]; omega, by simp only [rmD]; omega⟩ ⟨nle rfl, nle rfl⟩ dX12_goOnOr_32 (by decide) rfl) (fun u_42 hp_43 => ?_)
          rcases hp_43 with ⟨a2_45, fl_46, k2_47, dp2_48, C2_49, V2_50, hu_52, hq_53, hfl_54, hr_55, hfC_56, hfV_57⟩ | ⟨a2_58, ts_59, hu_61, hq_62, hr2_63⟩
          ·
            subst hu_52
            refine ⟨rfl, ?_⟩
            refine S_w (ws' := [(h0, ob 11 (uF (uF (uF f 3 (iv a2_45)) 4 (iv fl_46)) 5 (iv dp2_48))), (hT, ar 160 T), (hC, ar 1700 C2_49), (hV, ar 1700 V2_50), (hN, ar 5 (uZ Nk tx k2_47))]) rfl ?_
            refine S_aload_n X dX12_goOnOr_35 rfl hL17_0 ?_
            refine S_bipush X dX12_goOnOr_36 rfl ?_
            refine S_iconst X dX12_goOnOr_38 ?_
            refine S_callv X (kX12_put l h0 f a2_45 fl_46 dp2_48 hC hV hN C2_49 V2_50 Nk tx k2_47 11 0 hf2 hf3 hf4 hf5 (by omega) (by omega)) (is := [0, 2, 3, 4]) rfl (run_V X lkX12_140 0 rfl rfl (is := [0, 2, 3, 4]) (avs := [iv 11, iv 0]) (rest := []) rfl rfl (nle rfl) ⟨by simp only [rmD]; omega, by simp only [rmD]; omega⟩ ⟨nle rfl, nle rfl⟩ dX12_goOnOr_39 (by decide) rfl) (fun u_64 hp_65 => ?_)
            have hu_68 := hp_65
            subst hu_68
            refine ⟨rfl, ?_⟩
            refine S_w (ws' := [(h0, ob 11 (uF (uF (uF f 3 (iv a2_45)) 4 (iv fl_46)) 5 (iv dp2_48))), (hT, ar 160 T), (hC, ar 1700 (uZ C2_49 (340 * tx + k2_47) 11)), (hV, ar 1700 (uZ V2_50 (340 * tx + k2_47) 0)), (hN, ar 5 (uZ Nk tx (k2_47 + 1)))]) rfl ?_
            refine S_goto (tgt := 0) X dX12_goOnOr_42 (by decide) ?_
            refine S_aload_n X dX12_goOnOr_0 rfl hL17_0 ?_
            refine S_get (v := iv fl_46) X fgX12_118_11 0 rfl rfl dX12_goOnOr_1 ?_
            refine S_iconst X dX12_goOnOr_4 ?_
            refine S_icmp_ne (tgt := 45) X dX12_goOnOr_5 (by decide) (by omega) (by decide) (fun c_69 => ?_) (fun c_69 => by exfalso; omega)
            exact S_vret X (nle rfl) (nle rfl) dX12_goOnOr_45 (hPo _ (Or.inl ⟨_, _, _, _, _, _, rfl, hk9.symm.trans (loopL_f (by omega) ((seqG_r hq_29).trans hq_53)), by omega, by omega, by first | exact frm_0 | assumption | exact frm_r (by omega) (by omega) | exact frm_w (by assumption) (by omega) (by omega) | exact frm_p frm_0 (by omega) | exact frm_p (by assumption) (by omega) | exact frm_p (frm_w (by assumption) (by omega) (by omega)) (by omega), by first | exact frm_0 | assumption | exact frm_r (by omega) (by omega) | exact frm_w (by assumption) (by omega) (by omega) | exact frm_p frm_0 (by omega) | exact frm_p (by assumption) (by omega) | exact frm_p (frm_w (by assumption) (by omega) (by omega)) (by omega)⟩))
          ·
            subst hu_61
            refine ⟨rfl, ?_⟩
            refine S_w (ws' := [(h0, ob 11 (uF (uF (uF f 3 (iv a2_58)) 4 (iv (-1))) 5 (iv dp))), (hT, ar 160 T), (hC, ar 1700 (wrL (wrL C (340 * tx + k) (List.map kC acc)) (340 * tx + (k + ((acc).length : Int))) (List.map kC ts_59))), (hV, ar 1700 (wrL (wrL V (340 * tx + k) (List.map kV acc)) (340 * tx + (k + ((acc).length : Int))) (List.map kV ts_59))), (hN, ar 5 (uZ Nk tx ((k + ((acc).length : Int)) + ((ts_59).length : Int))))]) rfl ?_
            refine S_w (ws' := [(h0, ob 11 (uF (uF (uF f 3 (iv a2_58)) 4 (iv (-1))) 5 (iv dp))), (hT, ar 160 T), (hC, ar 1700 (wrL C (340 * tx + k) (List.map kC (acc ++ ts_59)))), (hV, ar 1700 (wrL V (340 * tx + k) (List.map kV (acc ++ ts_59)))), (hN, ar 5 (uZ Nk tx (k + ((acc ++ ts_59).length : Int))))]) (by simp only [rW_app, rK_app]) ?_
            have hln_70 : (((acc ++ ts_59).length : Nat) : Int) = _ := congrArg Nat.cast List.length_append
            rw [Int.natCast_add] at hln_70
            refine S_aload_n X dX12_goOnOr_35 rfl hL17_0 ?_
            refine S_bipush X dX12_goOnOr_36 rfl ?_
            refine S_iconst X dX12_goOnOr_38 ?_
            refine S_callv X (kX12_put l h0 f a2_58 (-1) dp hC hV hN (wrL C (340 * tx + k) (List.map kC (acc ++ ts_59))) (wrL V (340 * tx + k) (List.map kV (acc ++ ts_59))) Nk tx (k + ((acc ++ ts_59).length : Int)) 11 0 hf2 hf3 hf4 hf5 (by omega) (by omega)) (is := [0, 2, 3, 4]) rfl (run_V X lkX12_140 0 rfl rfl (is := [0, 2, 3, 4]) (avs := [iv 11, iv 0]) (rest := []) rfl rfl (nle rfl) ⟨by simp only [rmD]; omega, by simp only [rmD]; omega⟩ ⟨nle rfl, nle rfl⟩ dX12_goOnOr_39 (by decide) rfl) (fun u_71 hp_72 => ?_)
            have hu_75 := hp_72
            subst hu_75
            refine ⟨rfl, ?_⟩
            refine S_w (ws' := [(h0, ob 11 (uF (uF (uF f 3 (iv a2_58)) 4 (iv (-1))) 5 (iv dp))), (hT, ar 160 T), (hC, ar 1700 (uZ (wrL C (340 * tx + k) (List.map kC (acc ++ ts_59))) (340 * tx + (k + ((acc ++ ts_59).length : Int))) 11)), (hV, ar 1700 (uZ (wrL V (340 * tx + k) (List.map kV (acc ++ ts_59))) (340 * tx + (k + ((acc ++ ts_59).length : Int))) 0)), (hN, ar 5 (uZ Nk tx ((k + ((acc ++ ts_59).length : Int)) + 1)))]) rfl ?_
            refine S_w (ws' := [(h0, ob 11 (uF (uF (uF f 3 (iv a2_58)) 4 (iv (-1))) 5 (iv dp))), (hT, ar 160 T), (hC, ar 1700 (wrL C (340 * tx + k) (List.map kC (acc ++ ts_59 ++ [-124])))), (hV, ar 1700 (wrL V (340 * tx + k) (List.map kV (acc ++ ts_59 ++ [-124])))), (hN, ar 5 (uZ Nk tx (k + ((acc ++ ts_59 ++ [-124]).length : Int))))]) (by rw [rW_put (g := kC) (c0 := 11) (-124) rfl, rW_put (g := kV) (c0 := 0) (-124) rfl, rK_put (-124)]) ?_
            have hln_76 : (((acc ++ ts_59 ++ [-124]).length : Nat) : Int) = _ := congrArg Nat.cast List.length_append
            rw [Int.natCast_add, List.length_singleton] at hln_76
            have hkk_77 := (lpS (f := g9) (acc := acc) (show ch T n (sk T n a1) = 124 by omega) (by omega) ((seqG_r hq_29).trans hq_62)).symm.trans hk9
            refine S_goto (tgt := 0) X dX12_goOnOr_42 (by decide) ?_
            refine S_aload_n X dX12_goOnOr_0 rfl hL17_0 ?_
            refine S_get (v := iv (-1)) X fgX12_118_11 0 rfl rfl dX12_goOnOr_1 ?_
            refine S_iconst X dX12_goOnOr_4 ?_
            refine S_icmp_ne (tgt := 45) X dX12_goOnOr_5 (by decide) (by decide) (by decide) (fun h9 => absurd h9 (by decide)) (fun _ => ?_)
            refine S_aload_n X dX12_goOnOr_8 rfl hL17_0 ?_
            refine S_calli X (kX12_look l h0 hT f T n a2_58 (-1) dp hf0 hf1 (by omega) (by omega)) (is := [0, 1]) rfl (run_V X lkX12_130 0 rfl rfl (is := [0, 1]) (avs := []) (rest := []) rfl rfl (nle rfl) ⟨by simp only [rmD]; omega, by simp only [rmD]; omega⟩ ⟨nle rfl, nle rfl⟩ dX12_goOnOr_9 (by decide) rfl) (fun z_81 u_79 hp_80 => ?_)
            obtain ⟨hz_82, hu_83⟩ := hp_80
            subst hz_82
            subst hu_83
            refine ⟨rfl, ?_⟩
            refine S_w (ws' := [(h0, ob 11 (uF (uF (uF f 3 (iv (sk T n a2_58))) 4 (iv (-1))) 5 (iv dp))), (hT, ar 160 T), (hC, ar 1700 (wrL C (340 * tx + k) (List.map kC (acc ++ ts_59 ++ [-124])))), (hV, ar 1700 (wrL V (340 * tx + k) (List.map kV (acc ++ ts_59 ++ [-124])))), (hN, ar 5 (uZ Nk tx (k + ((acc ++ ts_59 ++ [-124]).length : Int))))]) rfl ?_
            have hsk_84 := sk_in (T := T) (n := n) (a := a2_58) (by omega)
            have hcm_84 := chM_or okT (a := sk T n a2_58) (by omega) (by omega)
            refine S_bipush X dX12_goOnOr_12 rfl ?_
            refine S_icmp_ne (tgt := 45) X dX12_goOnOr_14 (by decide) (by omega) (by decide) (fun c_85 => ?_) (fun c_85 => ?_)
            ·
              exact S_vret X (nle rfl) (nle rfl) dX12_goOnOr_45 (hPo _ (Or.inr ⟨_, _, rfl, hkk_77.symm.trans (lpE (by omega) (by omega)), by omega⟩))
            ·
              exact ih17 a2_58 (acc ++ ts_59 ++ [-124]) _ (by omega) (by omega) (by omega) (by omega) (⟨g9, by omega, hkk_77⟩) hL17_0 (by omega)
    exact lp17_1 (Int.toNat (161 - a) + 1) a tl _ (by omega) (by omega) (by omega) (by omega) (⟨161, by omega, rfl⟩) rfl (by omega)
set_option maxHeartbeats 4000000 in
set_option maxRecDepth 100000 in
theorem kX12_condition (l : Launch) (K : Nat) (d : Nat) (hd : 5 ≤ d) (d1 : Nat) (hd1 : d1 ≤ d) (hun : C_X12_unit l K d1) (d2 : Nat) (hd2 : d2 ≤ d) (han : C_X12_goOnAnd_N l K d2) (d3 : Nat) (hd3 : d3 ≤ d) (hor : C_X12_goOnOr_N l K d3) : C_X12_condition l K (d + 1) := by
  intro h0 hT f T n a dp hC hV hN C V Nk tx k hf0 hf1 hf2 hf3 hf4 hf5 okT ha ht hk hw
  refine AMv.of2 rfl (nle rfl) ?_
  intro D G A p e s m args below meth c Po hPo hnm X
  obtain ⟨hn0, hn1, hT2⟩ := id okT
  have hsk := sk_in (T := T) ha.2
  have hcm := chM_or okT (a := sk T n a) (by omega) (by omega)
  refine S_aload_n X dX12_condition_0 rfl rfl ?_
  refine S_callv X (hun h0 hT f T n a dp hC hV hN C V Nk tx k hf0 hf1 hf2 hf3 hf4 hf5 (by omega) (by omega) (by omega) (by omega) (by omega)) (is := [0, 1, 2, 3, 4]) rfl (run_V X lkX12_167 0 rfl rfl (is := [0, 1, 2, 3, 4]) (avs := []) (rest := []) rfl rfl (nle rfl) ⟨by simp only [rmD]; omega, by simp only [rmD]; omega⟩ ⟨nle rfl, nle rfl⟩ dX12_condition_1 (by decide) rfl) (fun u_1 hp_2 => ?_)
  rcases hp_2 with ⟨a2_4, fl_5, k2_6, dp2_7, C2_8, V2_9, hu_11, hq_12, hfl_13, hr_14, hfC_15, hfV_16⟩ | ⟨a2_17, ts_18, hu_20, hq_21⟩
  ·
    subst hu_11
    refine ⟨rfl, ?_⟩
    refine S_w (ws' := [(h0, ob 11 (uF (uF (uF f 3 (iv a2_4)) 4 (iv fl_5)) 5 (iv dp2_7))), (hT, ar 160 T), (hC, ar 1700 C2_8), (hV, ar 1700 V2_9), (hN, ar 5 (uZ Nk tx k2_6))]) rfl ?_
    refine S_aload_n X dX12_condition_4 rfl rfl ?_
    refine S_callv X (kX12_goOnAnd_E l h0 f a2_4 fl_5 dp2_7 (by omega) (by omega)) (is := [0]) rfl (run_V X lkX12_176 0 rfl rfl (is := [0]) (avs := []) (rest := []) rfl rfl (nle rfl) ⟨by simp only [rmD]; omega, by simp only [rmD]; omega⟩ ⟨nle rfl, nle rfl⟩ dX12_condition_5 (by decide) rfl) (fun u_22 hp_23 => ?_)
    have hu_26 := hp_23
    subst hu_26
    refine ⟨rfl, ?_⟩
    refine S_w (ws' := [(h0, ob 11 (uF (uF (uF f 3 (iv a2_4)) 4 (iv fl_5)) 5 (iv dp2_7))), (hT, ar 160 T), (hC, ar 1700 C2_8), (hV, ar 1700 V2_9), (hN, ar 5 (uZ Nk tx k2_6))]) rfl ?_
    refine S_aload_n X dX12_condition_8 rfl rfl ?_
    refine S_callv X (kX12_goOnOr_E l h0 f a2_4 fl_5 dp2_7 (by omega) (by omega)) (is := [0]) rfl (run_V X lkX12_179 0 rfl rfl (is := [0]) (avs := []) (rest := []) rfl rfl (nle rfl) ⟨by simp only [rmD]; omega, by simp only [rmD]; omega⟩ ⟨nle rfl, nle rfl⟩ dX12_condition_9 (by decide) rfl) (fun u_27 hp_28 => ?_)
    have hu_31 := hp_28
    subst hu_31
    refine ⟨rfl, ?_⟩
    refine S_w (ws' := [(h0, ob 11 (uF (uF (uF f 3 (iv a2_4)) 4 (iv fl_5)) 5 (iv dp2_7))), (hT, ar 160 T), (hC, ar 1700 C2_8), (hV, ar 1700 V2_9), (hN, ar 5 (uZ Nk tx k2_6))]) rfl ?_
    exact S_vret X (nle rfl) (nle rfl) dX12_condition_12 (hPo _ (Or.inl ⟨_, _, _, _, _, _, rfl, cond_u hq_12, by omega, by omega, by first | exact frm_0 | assumption | exact frm_r (by omega) (by omega) | exact frm_w (by assumption) (by omega) (by omega) | exact frm_p frm_0 (by omega) | exact frm_p (by assumption) (by omega) | exact frm_p (frm_w (by assumption) (by omega) (by omega)) (by omega), by first | exact frm_0 | assumption | exact frm_r (by omega) (by omega) | exact frm_w (by assumption) (by omega) (by omega) | exact frm_p frm_0 (by omega) | exact frm_p (by assumption) (by omega) | exact frm_p (frm_w (by assumption) (by omega) (by omega)) (by omega)⟩))
  ·
    subst hu_20
    refine ⟨rfl, ?_⟩
    refine S_w (ws' := [(h0, ob 11 (uF (uF (uF f 3 (iv a2_17)) 4 (iv (-1))) 5 (iv dp))), (hT, ar 160 T), (hC, ar 1700 (wrL C (340 * tx + k) (List.map kC ts_18))), (hV, ar 1700 (wrL V (340 * tx + k) (List.map kV ts_18))), (hN, ar 5 (uZ Nk tx (k + ((ts_18).length : Int))))]) rfl ?_
    have ho_32 := (pUnit_ok (T := T) hn1 K a ha.1 ha.2).2 _ hq_21
    dsimp only at ho_32
    refine S_aload_n X dX12_condition_4 rfl rfl ?_
    refine S_callv X (han h0 hT f T n a2_17 dp hC hV hN C V Nk tx k ts_18 hf0 hf1 hf2 hf3 hf4 hf5 (by omega) (by omega) (by omega) (by omega) (by omega)) (is := [0, 1, 2, 3, 4]) rfl (run_V X lkX12_176 0 rfl rfl (is := [0, 1, 2, 3, 4]) (avs := []) (rest := []) rfl rfl (nle rfl) ⟨by simp only [rmD]; omega, by simp only [rmD]; omega⟩ ⟨nle rfl, nle rfl⟩ dX12_condition_5 (by decide) rfl) (fun u_33 hp_34 => ?_)
    rcases hp_34 with ⟨a2_36, fl_37, k2_38, dp2_39, C2_40, V2_41, hu_43, hq_44, hfl_45, hr_46, hfC_47, hfV_48⟩ | ⟨a2_49, ts_50, hu_52, hq_53, hr2_54⟩
    ·
      subst hu_43
      refine ⟨rfl, ?_⟩
      refine S_w (ws' := [(h0, ob 11 (uF (uF (uF f 3 (iv a2_36)) 4 (iv fl_37)) 5 (iv dp2_39))), (hT, ar 160 T), (hC, ar 1700 C2_40), (hV, ar 1700 V2_41), (hN, ar 5 (uZ Nk tx k2_38))]) rfl ?_
      refine S_aload_n X dX12_condition_8 rfl rfl ?_
      refine S_callv X (kX12_goOnOr_E l h0 f a2_36 fl_37 dp2_39 (by omega) (by omega)) (is := [0]) rfl (run_V X lkX12_179 0 rfl rfl (is := [0]) (avs := []) (rest := []) rfl rfl (nle rfl) ⟨by simp only [rmD]; omega, by simp only [rmD]; omega⟩ ⟨nle rfl, nle rfl⟩ dX12_condition_9 (by decide) rfl) (fun u_55 hp_56 => ?_)
      have hu_59 := hp_56
      subst hu_59
      refine ⟨rfl, ?_⟩
      refine S_w (ws' := [(h0, ob 11 (uF (uF (uF f 3 (iv a2_36)) 4 (iv fl_37)) 5 (iv dp2_39))), (hT, ar 160 T), (hC, ar 1700 C2_40), (hV, ar 1700 V2_41), (hN, ar 5 (uZ Nk tx k2_38))]) rfl ?_
      exact S_vret X (nle rfl) (nle rfl) dX12_condition_12 (hPo _ (Or.inl ⟨_, _, _, _, _, _, rfl, cond_a hn1 (by omega) hq_21 hq_44, by omega, by omega, by first | exact frm_0 | assumption | exact frm_r (by omega) (by omega) | exact frm_w (by assumption) (by omega) (by omega) | exact frm_p frm_0 (by omega) | exact frm_p (by assumption) (by omega) | exact frm_p (frm_w (by assumption) (by omega) (by omega)) (by omega), by first | exact frm_0 | assumption | exact frm_r (by omega) (by omega) | exact frm_w (by assumption) (by omega) (by omega) | exact frm_p frm_0 (by omega) | exact frm_p (by assumption) (by omega) | exact frm_p (frm_w (by assumption) (by omega) (by omega)) (by omega)⟩))
    ·
      subst hu_52
      refine ⟨rfl, ?_⟩
      refine S_w (ws' := [(h0, ob 11 (uF (uF (uF f 3 (iv a2_49)) 4 (iv (-1))) 5 (iv dp))), (hT, ar 160 T), (hC, ar 1700 (wrL C (340 * tx + k) (List.map kC ts_50))), (hV, ar 1700 (wrL V (340 * tx + k) (List.map kV ts_50))), (hN, ar 5 (uZ Nk tx (k + ((ts_50).length : Int))))]) rfl ?_
      refine S_aload_n X dX12_condition_8 rfl rfl ?_
      refine S_callv X (hor h0 hT f T n a2_49 dp hC hV hN C V Nk tx k ts_50 hf0 hf1 hf2 hf3 hf4 hf5 (by omega) (by omega) (by omega) (by omega) (by omega)) (is := [0, 1, 2, 3, 4]) rfl (run_V X lkX12_179 0 rfl rfl (is := [0, 1, 2, 3, 4]) (avs := []) (rest := []) rfl rfl (nle rfl) ⟨by simp only [rmD]; omega, by simp only [rmD]; omega⟩ ⟨nle rfl, nle rfl⟩ dX12_condition_9 (by decide) rfl) (fun u_60 hp_61 => ?_)
      rcases hp_61 with ⟨a2_63, fl_64, k2_65, dp2_66, C2_67, V2_68, hu_70, hq_71, hfl_72, hr_73, hfC_74, hfV_75⟩ | ⟨a2_76, ts_77, hu_79, hq_80, hr2_81⟩
      ·
        subst hu_70
        refine ⟨rfl, ?_⟩
        refine S_w (ws' := [(h0, ob 11 (uF (uF (uF f 3 (iv a2_63)) 4 (iv fl_64)) 5 (iv dp2_66))), (hT, ar 160 T), (hC, ar 1700 C2_67), (hV, ar 1700 V2_68), (hN, ar 5 (uZ Nk tx k2_65))]) rfl ?_
        exact S_vret X (nle rfl) (nle rfl) dX12_condition_12 (hPo _ (Or.inl ⟨_, _, _, _, _, _, rfl, cond_o hn1 (by omega) hq_21 hq_53 hq_71, by omega, by omega, by first | exact frm_0 | assumption | exact frm_r (by omega) (by omega) | exact frm_w (by assumption) (by omega) (by omega) | exact frm_p frm_0 (by omega) | exact frm_p (by assumption) (by omega) | exact frm_p (frm_w (by assumption) (by omega) (by omega)) (by omega), by first | exact frm_0 | assumption | exact frm_r (by omega) (by omega) | exact frm_w (by assumption) (by omega) (by omega) | exact frm_p frm_0 (by omega) | exact frm_p (by assumption) (by omega) | exact frm_p (frm_w (by assumption) (by omega) (by omega)) (by omega)⟩))
      ·
        subst hu_79
        refine ⟨rfl, ?_⟩
        refine S_w (ws' := [(h0, ob 11 (uF (uF (uF f 3 (iv a2_76)) 4 (iv (-1))) 5 (iv dp))), (hT, ar 160 T), (hC, ar 1700 (wrL C (340 * tx + k) (List.map kC ts_77))), (hV, ar 1700 (wrL V (340 * tx + k) (List.map kV ts_77))), (hN, ar 5 (uZ Nk tx (k + ((ts_77).length : Int))))]) rfl ?_
        exact S_vret X (nle rfl) (nle rfl) dX12_condition_12 (hPo _ (Or.inr ⟨_, _, rfl, cond_o hn1 (by omega) hq_21 hq_53 hq_80⟩))
set_option maxHeartbeats 4000000 in
set_option maxRecDepth 100000 in
theorem kX12_unit (l : Launch) (K : Nat) (d : Nat) (hd : 5 ≤ d) (d1 : Nat) (hd1 : d1 ≤ d) (hsu : C_X12_sum l K d1) (d2 : Nat) (hd2 : d2 ≤ d) (hcp : C_X12_compare l K d2) (d3 : Nat) (hd3 : d3 ≤ d) (hun : ∀ K2 : Nat, K = K2 + 1 → C_X12_unit l K2 d3) (d4 : Nat) (hd4 : d4 ≤ d) (hco : ∀ K2 : Nat, K = K2 + 1 → C_X12_condition l K2 d4) : C_X12_unit l K (d + 1) := by
  intro h0 hT f T n a dp hC hV hN C V Nk tx k hf0 hf1 hf2 hf3 hf4 hf5 okT ha ht hk hw
  refine AMv.of2 rfl (nle rfl) ?_
  intro D G A p e s m args below meth c Po hPo hnm X
  obtain ⟨hn0, hn1, hT2⟩ := id okT
  have hsk := sk_in (T := T) ha.2
  have hcm := chM_or okT (a := sk T n a) (by omega) (by omega)
  refine S_aload_n X dX12_unit_0 rfl rfl ?_
  refine S_calli X (kX12_look l h0 hT f T n a (-1) dp hf0 hf1 (by omega) (by omega)) (is := [0, 1]) rfl (run_V X lkX12_130 0 rfl rfl (is := [0, 1]) (avs := []) (rest := []) rfl rfl (nle rfl) ⟨by simp only [rmD]; omega, by simp only [rmD]; omega⟩ ⟨nle rfl, nle rfl⟩ dX12_unit_1 (by decide) rfl) (fun z_3 u_1 hp_2 => ?_)
  obtain ⟨hz_4, hu_5⟩ := hp_2
  subst hz_4
  subst hu_5
  refine ⟨rfl, ?_⟩
  refine S_w (ws' := [(h0, ob 11 (uF (uF (uF f 3 (iv (sk T n a))) 4 (iv (-1))) 5 (iv dp))), (hT, ar 160 T), (hC, ar 1700 C), (hV, ar 1700 V), (hN, ar 5 (uZ Nk tx k))]) rfl ?_
  refine S_istore_n X dX12_unit_4 rfl (nle rfl) ?_
  refine S_iload_n X dX12_unit_5 rfl rfl ?_
  refine S_bipush X dX12_unit_6 rfl ?_
  refine S_icmp_ne (tgt := 47) X dX12_unit_8 (by decide) (by omega) (by decide) (fun c_6 => ?_) (fun c_6 => ?_)
  ·
    refine S_iload_n X dX12_unit_47 rfl rfl ?_
    refine S_bipush X dX12_unit_48 rfl ?_
    refine S_icmp_ne (tgt := 78) X dX12_unit_50 (by decide) (by omega) (by decide) (fun c_7 => ?_) (fun c_7 => ?_)
    ·
      refine S_aload_n X dX12_unit_78 rfl rfl ?_
      refine S_callv X (hsu h0 hT f T n (sk T n a) dp hC hV hN C V Nk tx k hf0 hf1 hf2 hf3 hf4 hf5 (by omega) (by omega) (by omega) (by omega) (by omega)) (is := [0, 1, 2, 3, 4]) rfl (run_V X lkX12_151 0 rfl rfl (is := [0, 1, 2, 3, 4]) (avs := []) (rest := []) rfl rfl (nle rfl) ⟨by simp only [rmD]; omega, by simp only [rmD]; omega⟩ ⟨nle rfl, nle rfl⟩ dX12_unit_79 (by decide) rfl) (fun u_8 hp_9 => ?_)
      rcases hp_9 with ⟨a2_11, fl_12, k2_13, dp2_14, C2_15, V2_16, hu_18, hq_19, hfl_20, hr_21, hfC_22, hfV_23⟩ | ⟨a2_24, ts_25, hu_27, hq_28⟩
      ·
        subst hu_18
        refine ⟨rfl, ?_⟩
        refine S_w (ws' := [(h0, ob 11 (uF (uF (uF f 3 (iv a2_11)) 4 (iv fl_12)) 5 (iv dp2_14))), (hT, ar 160 T), (hC, ar 1700 C2_15), (hV, ar 1700 V2_16), (hN, ar 5 (uZ Nk tx k2_13))]) rfl ?_
        refine S_aload_n X dX12_unit_82 rfl rfl ?_
        refine S_get (v := iv fl_12) X fgX12_118_11 0 rfl rfl dX12_unit_83 ?_
        refine S_iconst X dX12_unit_86 ?_
        refine S_icmp_ne (tgt := 94) X dX12_unit_87 (by decide) (by omega) (by decide) (fun c_29 => ?_) (fun c_29 => by exfalso; omega)
        exact S_vret X (nle rfl) (nle rfl) dX12_unit_94 (hPo _ (Or.inl ⟨_, _, _, _, _, _, rfl, unit_sf (by omega) hq_19, by omega, by omega, by first | exact frm_0 | assumption | exact frm_r (by omega) (by omega) | exact frm_w (by assumption) (by omega) (by omega) | exact frm_p frm_0 (by omega) | exact frm_p (by assumption) (by omega) | exact frm_p (frm_w (by assumption) (by omega) (by omega)) (by omega), by first | exact frm_0 | assumption | exact frm_r (by omega) (by omega) | exact frm_w (by assumption) (by omega) (by omega) | exact frm_p frm_0 (by omega) | exact frm_p (by assumption) (by omega) | exact frm_p (frm_w (by assumption) (by omega) (by omega)) (by omega)⟩))
      ·
        subst hu_27
        refine ⟨rfl, ?_⟩
        refine S_w (ws' := [(h0, ob 11 (uF (uF (uF f 3 (iv a2_24)) 4 (iv (-1))) 5 (iv dp))), (hT, ar 160 T), (hC, ar 1700 (wrL C (340 * tx + k) (List.map kC ts_25))), (hV, ar 1700 (wrL V (340 * tx + k) (List.map kV ts_25))), (hN, ar 5 (uZ Nk tx (k + ((ts_25).length : Int))))]) rfl ?_
        have ho_30 := ((pAS_ok (T := T) hn1 K).2 (sk T n a) (by omega) (by omega)).2 _ hq_28
        dsimp only at ho_30
        have hskb_30 := sk_in (T := T) (n := n) (a := a2_24) (by omega)
        refine S_aload_n X dX12_unit_82 rfl rfl ?_
        refine S_get (v := iv (-1)) X fgX12_118_11 0 rfl rfl dX12_unit_83 ?_
        refine S_iconst X dX12_unit_86 ?_
        refine S_icmp_ne (tgt := 94) X dX12_unit_87 (by decide) (by decide) (by decide) (fun h9 => absurd h9 (by decide)) (fun _ => ?_)
        refine S_aload_n X dX12_unit_90 rfl rfl ?_
        refine S_callv X (hcp h0 hT f T n a2_24 dp hC hV hN (wrL C (340 * tx + k) (List.map kC ts_25)) (wrL V (340 * tx + k) (List.map kV ts_25)) Nk tx (k + ((ts_25).length : Int)) hf0 hf1 hf2 hf3 hf4 hf5 (by omega) (by omega) (by omega) (by omega) (by omega)) (is := [0, 1, 2, 3, 4]) rfl (run_V X lkX12_173 0 rfl rfl (is := [0, 1, 2, 3, 4]) (avs := []) (rest := []) rfl rfl (nle rfl) ⟨by simp only [rmD]; omega, by simp only [rmD]; omega⟩ ⟨nle rfl, nle rfl⟩ dX12_unit_91 (by decide) rfl) (fun u_32 hp_33 => ?_)
        rcases hp_33 with ⟨a2_35, fl_36, k2_37, dp2_38, C2_39, V2_40, hu_42, hq_43, hfl_44, hr_45, hfC_46, hfV_47⟩ | ⟨a2_48, ts_49, hu_51, hq_52⟩
        ·
          subst hu_42
          refine ⟨rfl, ?_⟩
          refine S_w (ws' := [(h0, ob 11 (uF (uF (uF f 3 (iv a2_35)) 4 (iv fl_36)) 5 (iv dp2_38))), (hT, ar 160 T), (hC, ar 1700 C2_39), (hV, ar 1700 V2_40), (hN, ar 5 (uZ Nk tx k2_37))]) rfl ?_
          exact S_vret X (nle rfl) (nle rfl) dX12_unit_94 (hPo _ (Or.inl ⟨_, _, _, _, _, _, rfl, unit_cf (by omega) hq_28 hq_43, by omega, by omega, by first | exact frm_0 | assumption | exact frm_r (by omega) (by omega) | exact frm_w (by assumption) (by omega) (by omega) | exact frm_p frm_0 (by omega) | exact frm_p (by assumption) (by omega) | exact frm_p (frm_w (by assumption) (by omega) (by omega)) (by omega), by first | exact frm_0 | assumption | exact frm_r (by omega) (by omega) | exact frm_w (by assumption) (by omega) (by omega) | exact frm_p frm_0 (by omega) | exact frm_p (by assumption) (by omega) | exact frm_p (frm_w (by assumption) (by omega) (by omega)) (by omega)⟩))
        ·
          subst hu_51
          refine ⟨rfl, ?_⟩
          refine S_w (ws' := [(h0, ob 11 (uF (uF (uF f 3 (iv a2_48)) 4 (iv (-1))) 5 (iv dp))), (hT, ar 160 T), (hC, ar 1700 (wrL (wrL C (340 * tx + k) (List.map kC ts_25)) (340 * tx + (k + ((ts_25).length : Int))) (List.map kC ts_49))), (hV, ar 1700 (wrL (wrL V (340 * tx + k) (List.map kV ts_25)) (340 * tx + (k + ((ts_25).length : Int))) (List.map kV ts_49))), (hN, ar 5 (uZ Nk tx ((k + ((ts_25).length : Int)) + ((ts_49).length : Int))))]) rfl ?_
          refine S_w (ws' := [(h0, ob 11 (uF (uF (uF f 3 (iv a2_48)) 4 (iv (-1))) 5 (iv dp))), (hT, ar 160 T), (hC, ar 1700 (wrL C (340 * tx + k) (List.map kC (ts_25 ++ ts_49)))), (hV, ar 1700 (wrL V (340 * tx + k) (List.map kV (ts_25 ++ ts_49)))), (hN, ar 5 (uZ Nk tx (k + ((ts_25 ++ ts_49).length : Int))))]) (by simp only [rW_app, rK_app]) ?_
          have ho_53 := (cmpG_ok (T := T) hn1 K a2_24 (by omega) (by omega)).2 _ hq_52
          dsimp only at ho_53
          have hln_53 : (((ts_25 ++ ts_49).length : Nat) : Int) = _ := congrArg Nat.cast List.length_append
          rw [Int.natCast_add] at hln_53
          exact S_vret X (nle rfl) (nle rfl) dX12_unit_94 (hPo _ (Or.inr ⟨_, _, rfl, unit_c (by omega) hq_28 hq_52⟩))
    ·
      refine S_aload_n X dX12_unit_53 rfl rfl ?_
      refine S_callv X (kX12_opens l h0 f (sk T n a) (-1) dp (by omega) (by omega)) (is := [0]) rfl (run_V X lkX12_148 0 rfl rfl (is := [0]) (avs := []) (rest := []) rfl rfl (nle rfl) ⟨by simp only [rmD]; omega, by simp only [rmD]; omega⟩ ⟨nle rfl, nle rfl⟩ dX12_unit_54 (by decide) rfl) (fun u_54 hp_55 => ?_)
      rcases hp_55 with ⟨hu_58, hq_59⟩ | ⟨hu_61, hq_62⟩
      ·
        subst hu_58
        refine ⟨rfl, ?_⟩
        refine S_w (ws' := [(h0, ob 11 (uF (uF (uF f 3 (iv ((sk T n a) + 1))) 4 (iv (sk T n a))) 5 (iv (dp + 1)))), (hT, ar 160 T), (hC, ar 1700 C), (hV, ar 1700 V), (hN, ar 5 (uZ Nk tx k))]) rfl ?_
        refine S_aload_n X dX12_unit_57 rfl rfl ?_
        refine S_get (v := iv (sk T n a)) X fgX12_118_11 0 rfl rfl dX12_unit_58 ?_
        refine S_iconst X dX12_unit_61 ?_
        refine S_icmp_ne (tgt := 94) X dX12_unit_62 (by decide) (by omega) (by decide) (fun c_63 => ?_) (fun c_63 => by exfalso; omega)
        exact S_vret X (nle rfl) (nle rfl) dX12_unit_94 (hPo _ (Or.inl ⟨_, _, _, _, _, _, rfl, unit_d (by omega) (by omega), by omega, by omega, by first | exact frm_0 | assumption | exact frm_r (by omega) (by omega) | exact frm_w (by assumption) (by omega) (by omega) | exact frm_p frm_0 (by omega) | exact frm_p (by assumption) (by omega) | exact frm_p (frm_w (by assumption) (by omega) (by omega)) (by omega), by first | exact frm_0 | assumption | exact frm_r (by omega) (by omega) | exact frm_w (by assumption) (by omega) (by omega) | exact frm_p frm_0 (by omega) | exact frm_p (by assumption) (by omega) | exact frm_p (frm_w (by assumption) (by omega) (by omega)) (by omega)⟩))
      ·
        subst hu_61
        refine ⟨rfl, ?_⟩
        refine S_w (ws' := [(h0, ob 11 (uF (uF (uF f 3 (iv ((sk T n a) + 1))) 4 (iv (-1))) 5 (iv (dp + 1)))), (hT, ar 160 T), (hC, ar 1700 C), (hV, ar 1700 V), (hN, ar 5 (uZ Nk tx k))]) rfl ?_
        obtain ⟨K2, hK2⟩ : ∃ K2 : Nat, K = K2 + 1 := ⟨K - 1, by omega⟩
        refine S_aload_n X dX12_unit_57 rfl rfl ?_
        refine S_get (v := iv (-1)) X fgX12_118_11 0 rfl rfl dX12_unit_58 ?_
        refine S_iconst X dX12_unit_61 ?_
        refine S_icmp_ne (tgt := 94) X dX12_unit_62 (by decide) (by decide) (by decide) (fun h9 => absurd h9 (by decide)) (fun _ => ?_)
        refine S_aload_n X dX12_unit_65 rfl rfl ?_
        refine S_callv X ((hco K2 hK2) h0 hT f T n ((sk T n a) + 1) (dp + 1) hC hV hN C V Nk tx k hf0 hf1 hf2 hf3 hf4 hf5 (by omega) (by omega) (by omega) (by omega) (by omega)) (is := [0, 1, 2, 3, 4]) rfl (run_V X lkX12_170 0 rfl rfl (is := [0, 1, 2, 3, 4]) (avs := []) (rest := []) rfl rfl (nle rfl) ⟨by simp only [rmD]; omega, by simp only [rmD]; omega⟩ ⟨nle rfl, nle rfl⟩ dX12_unit_66 (by decide) rfl) (fun u_65 hp_66 => ?_)
        rcases hp_66 with ⟨a2_68, fl_69, k2_70, dp2_71, C2_72, V2_73, hu_75, hq_76, hfl_77, hr_78, hfC_79, hfV_80⟩ | ⟨a2_81, ts_82, hu_84, hq_85⟩
        ·
          subst hu_75
          refine ⟨rfl, ?_⟩
          refine S_w (ws' := [(h0, ob 11 (uF (uF (uF f 3 (iv a2_68)) 4 (iv fl_69)) 5 (iv dp2_71))), (hT, ar 160 T), (hC, ar 1700 C2_72), (hV, ar 1700 V2_73), (hN, ar 5 (uZ Nk tx k2_70))]) rfl ?_
          refine S_aload_n X dX12_unit_69 rfl rfl ?_
          refine S_bipush X dX12_unit_70 rfl ?_
          refine S_callv X (kX12_closes_E l h0 f a2_68 fl_69 dp2_71 41 (by omega) (by omega)) (is := [0]) rfl (run_V X lkX12_154 0 rfl rfl (is := [0]) (avs := [iv 41]) (rest := []) rfl rfl (nle rfl) ⟨by simp only [rmD]; omega, by simp only [rmD]; omega⟩ ⟨nle rfl, nle rfl⟩ dX12_unit_72 (by decide) rfl) (fun u_86 hp_87 => ?_)
          have hu_90 := hp_87
          subst hu_90
          refine ⟨rfl, ?_⟩
          refine S_w (ws' := [(h0, ob 11 (uF (uF (uF f 3 (iv (a2_68 + 1))) 4 (iv fl_69)) 5 (iv (dp2_71 - 1)))), (hT, ar 160 T), (hC, ar 1700 C2_72), (hV, ar 1700 V2_73), (hN, ar 5 (uZ Nk tx k2_70))]) rfl ?_
          refine S_goto (tgt := 94) X dX12_unit_75 (by decide) ?_
          exact S_vret X (nle rfl) (nle rfl) dX12_unit_94 (hPo _ (Or.inl ⟨_, _, _, _, _, _, rfl, by rw [hK2]; exact unit_pf (by omega) hq_76, by omega, by omega, by first | exact frm_0 | assumption | exact frm_r (by omega) (by omega) | exact frm_w (by assumption) (by omega) (by omega) | exact frm_p frm_0 (by omega) | exact frm_p (by assumption) (by omega) | exact frm_p (frm_w (by assumption) (by omega) (by omega)) (by omega), by first | exact frm_0 | assumption | exact frm_r (by omega) (by omega) | exact frm_w (by assumption) (by omega) (by omega) | exact frm_p frm_0 (by omega) | exact frm_p (by assumption) (by omega) | exact frm_p (frm_w (by assumption) (by omega) (by omega)) (by omega)⟩))
        ·
          subst hu_84
          refine ⟨rfl, ?_⟩
          refine S_w (ws' := [(h0, ob 11 (uF (uF (uF f 3 (iv a2_81)) 4 (iv (-1))) 5 (iv (dp + 1)))), (hT, ar 160 T), (hC, ar 1700 (wrL C (340 * tx + k) (List.map kC ts_82))), (hV, ar 1700 (wrL V (340 * tx + k) (List.map kV ts_82))), (hN, ar 5 (uZ Nk tx (k + ((ts_82).length : Int))))]) rfl ?_
          have ho_91 := (pCond_ok (T := T) hn1 K2 (sk T n a + 1) (by omega) (by omega)).2 _ hq_85
          dsimp only at ho_91
          have hskb_91 := sk_in (T := T) (n := n) (a := a2_81) (by omega)
          refine S_aload_n X dX12_unit_69 rfl rfl ?_
          refine S_bipush X dX12_unit_70 rfl ?_
          refine S_callv X (kX12_closes_N l h0 hT f T n a2_81 (-1) (dp + 1) 41 hf0 hf1 (by omega) (by omega) (by omega) (by omega)) (is := [0, 1]) rfl (run_V X lkX12_154 0 rfl rfl (is := [0, 1]) (avs := [iv 41]) (rest := []) rfl rfl (nle rfl) ⟨by simp only [rmD]; omega, by simp only [rmD]; omega⟩ ⟨nle rfl, nle rfl⟩ dX12_unit_72 (by decide) rfl) (fun u_92 hp_93 => ?_)
          rcases hp_93 with ⟨hu_96, hq_97⟩ | ⟨hu_99, hq_100⟩
          ·
            subst hu_96
            refine ⟨rfl, ?_⟩
            refine S_w (ws' := [(h0, ob 11 (uF (uF (uF f 3 (iv ((sk T n a2_81) + 1))) 4 (iv (sk T n a2_81))) 5 (iv ((dp + 1) - 1)))), (hT, ar 160 T), (hC, ar 1700 (wrL C (340 * tx + k) (List.map kC ts_82))), (hV, ar 1700 (wrL V (340 * tx + k) (List.map kV ts_82))), (hN, ar 5 (uZ Nk tx (k + ((ts_82).length : Int))))]) rfl ?_
            refine S_goto (tgt := 94) X dX12_unit_75 (by decide) ?_
            exact S_vret X (nle rfl) (nle rfl) dX12_unit_94 (hPo _ (Or.inl ⟨_, _, _, _, _, _, rfl, by rw [hK2]; exact (unit_p (by omega) hq_85).trans (if_neg hq_97), by omega, by omega, by first | exact frm_0 | assumption | exact frm_r (by omega) (by omega) | exact frm_w (by assumption) (by omega) (by omega) | exact frm_p frm_0 (by omega) | exact frm_p (by assumption) (by omega) | exact frm_p (frm_w (by assumption) (by omega) (by omega)) (by omega), by first | exact frm_0 | assumption | exact frm_r (by omega) (by omega) | exact frm_w (by assumption) (by omega) (by omega) | exact frm_p frm_0 (by omega) | exact frm_p (by assumption) (by omega) | exact frm_p (frm_w (by assumption) (by omega) (by omega)) (by omega)⟩))
          ·
            subst hu_99
            refine ⟨rfl, ?_⟩
            refine S_w (ws' := [(h0, ob 11 (uF (uF (uF f 3 (iv ((sk T n a2_81) + 1))) 4 (iv (-1))) 5 (iv ((dp + 1) - 1)))), (hT, ar 160 T), (hC, ar 1700 (wrL C (340 * tx + k) (List.map kC ts_82))), (hV, ar 1700 (wrL V (340 * tx + k) (List.map kV ts_82))), (hN, ar 5 (uZ Nk tx (k + ((ts_82).length : Int))))]) rfl ?_
            refine S_w (ws' := [(h0, ob 11 (uF (uF (uF f 3 (iv ((sk T n a2_81) + 1))) 4 (iv (-1))) 5 (iv dp))), (hT, ar 160 T), (hC, ar 1700 (wrL C (340 * tx + k) (List.map kC ts_82))), (hV, ar 1700 (wrL V (340 * tx + k) (List.map kV ts_82))), (hN, ar 5 (uZ Nk tx (k + ((ts_82).length : Int))))]) (by rw [show (dp + 1) - 1 = dp by omega]) ?_
            refine S_goto (tgt := 94) X dX12_unit_75 (by decide) ?_
            exact S_vret X (nle rfl) (nle rfl) dX12_unit_94 (hPo _ (Or.inr ⟨_, _, rfl, by rw [hK2]; exact (unit_p (by omega) hq_85).trans (if_pos hq_100)⟩))
  ·
    refine S_aload_n X dX12_unit_11 rfl rfl ?_
    refine S_callv X (kX12_opens l h0 f (sk T n a) (-1) dp (by omega) (by omega)) (is := [0]) rfl (run_V X lkX12_148 0 rfl rfl (is := [0]) (avs := []) (rest := []) rfl rfl (nle rfl) ⟨by simp only [rmD]; omega, by simp only [rmD]; omega⟩ ⟨nle rfl, nle rfl⟩ dX12_unit_12 (by decide) rfl) (fun u_101 hp_102 => ?_)
    rcases hp_102 with ⟨hu_105, hq_106⟩ | ⟨hu_108, hq_109⟩
    ·
      subst hu_105
      refine ⟨rfl, ?_⟩
      refine S_w (ws' := [(h0, ob 11 (uF (uF (uF f 3 (iv ((sk T n a) + 1))) 4 (iv (sk T n a))) 5 (iv (dp + 1)))), (hT, ar 160 T), (hC, ar 1700 C), (hV, ar 1700 V), (hN, ar 5 (uZ Nk tx k))]) rfl ?_
      refine S_aload_n X dX12_unit_15 rfl rfl ?_
      refine S_get (v := iv (sk T n a)) X fgX12_118_11 0 rfl rfl dX12_unit_16 ?_
      refine S_iconst X dX12_unit_19 ?_
      refine S_icmp_ne (tgt := 94) X dX12_unit_20 (by decide) (by omega) (by decide) (fun c_110 => ?_) (fun c_110 => by exfalso; omega)
      exact S_vret X (nle rfl) (nle rfl) dX12_unit_94 (hPo _ (Or.inl ⟨_, _, _, _, _, _, rfl, unit_d (by omega) (by omega), by omega, by omega, by first | exact frm_0 | assumption | exact frm_r (by omega) (by omega) | exact frm_w (by assumption) (by omega) (by omega) | exact frm_p frm_0 (by omega) | exact frm_p (by assumption) (by omega) | exact frm_p (frm_w (by assumption) (by omega) (by omega)) (by omega), by first | exact frm_0 | assumption | exact frm_r (by omega) (by omega) | exact frm_w (by assumption) (by omega) (by omega) | exact frm_p frm_0 (by omega) | exact frm_p (by assumption) (by omega) | exact frm_p (frm_w (by assumption) (by omega) (by omega)) (by omega)⟩))
    ·
      subst hu_108
      refine ⟨rfl, ?_⟩
      refine S_w (ws' := [(h0, ob 11 (uF (uF (uF f 3 (iv ((sk T n a) + 1))) 4 (iv (-1))) 5 (iv (dp + 1)))), (hT, ar 160 T), (hC, ar 1700 C), (hV, ar 1700 V), (hN, ar 5 (uZ Nk tx k))]) rfl ?_
      obtain ⟨K2, hK2⟩ : ∃ K2 : Nat, K = K2 + 1 := ⟨K - 1, by omega⟩
      refine S_aload_n X dX12_unit_15 rfl rfl ?_
      refine S_get (v := iv (-1)) X fgX12_118_11 0 rfl rfl dX12_unit_16 ?_
      refine S_iconst X dX12_unit_19 ?_
      refine S_icmp_ne (tgt := 94) X dX12_unit_20 (by decide) (by decide) (by decide) (fun h9 => absurd h9 (by decide)) (fun _ => ?_)
      refine S_aload_n X dX12_unit_23 rfl rfl ?_
      refine S_callv X ((hun K2 hK2) h0 hT f T n ((sk T n a) + 1) (dp + 1) hC hV hN C V Nk tx k hf0 hf1 hf2 hf3 hf4 hf5 (by omega) (by omega) (by omega) (by omega) (by omega)) (is := [0, 1, 2, 3, 4]) rfl (run_V X lkX12_167 0 rfl rfl (is := [0, 1, 2, 3, 4]) (avs := []) (rest := []) rfl rfl (nle rfl) ⟨by simp only [rmD]; omega, by simp only [rmD]; omega⟩ ⟨nle rfl, nle rfl⟩ dX12_unit_24 (by decide) rfl) (fun u_112 hp_113 => ?_)
      rcases hp_113 with ⟨a2_115, fl_116, k2_117, dp2_118, C2_119, V2_120, hu_122, hq_123, hfl_124, hr_125, hfC_126, hfV_127⟩ | ⟨a2_128, ts_129, hu_131, hq_132⟩
      ·
        subst hu_122
        refine ⟨rfl, ?_⟩
        refine S_w (ws' := [(h0, ob 11 (uF (uF (uF f 3 (iv a2_115)) 4 (iv fl_116)) 5 (iv dp2_118))), (hT, ar 160 T), (hC, ar 1700 C2_119), (hV, ar 1700 V2_120), (hN, ar 5 (uZ Nk tx k2_117))]) rfl ?_
        refine S_aload_n X dX12_unit_27 rfl rfl ?_
        refine S_bipush X dX12_unit_28 rfl ?_
        refine S_iconst X dX12_unit_30 ?_
        refine S_callv X (kX12_put l h0 f a2_115 fl_116 dp2_118 hC hV hN C2_119 V2_120 Nk tx k2_117 9 0 hf2 hf3 hf4 hf5 (by omega) (by omega)) (is := [0, 2, 3, 4]) rfl (run_V X lkX12_140 0 rfl rfl (is := [0, 2, 3, 4]) (avs := [iv 9, iv 0]) (rest := []) rfl rfl (nle rfl) ⟨by simp only [rmD]; omega, by simp only [rmD]; omega⟩ ⟨nle rfl, nle rfl⟩ dX12_unit_31 (by decide) rfl) (fun u_133 hp_134 => ?_)
        have hu_137 := hp_134
        subst hu_137
        refine ⟨rfl, ?_⟩
        refine S_w (ws' := [(h0, ob 11 (uF (uF (uF f 3 (iv a2_115)) 4 (iv fl_116)) 5 (iv dp2_118))), (hT, ar 160 T), (hC, ar 1700 (uZ C2_119 (340 * tx + k2_117) 9)), (hV, ar 1700 (uZ V2_120 (340 * tx + k2_117) 0)), (hN, ar 5 (uZ Nk tx (k2_117 + 1)))]) rfl ?_
        refine S_aload_n X dX12_unit_34 rfl rfl ?_
        refine S_dup X dX12_unit_35 ?_
        refine S_get (v := iv dp2_118) X fgX12_124_11 0 rfl rfl dX12_unit_36 ?_
        refine S_iconst X dX12_unit_39 ?_
        refine S_isub X dX12_unit_40 ?_
        refine S_put X fpX12_124_11 0 rfl FT_i dX12_unit_41 ?_
        refine S_w (ws' := [(h0, ob 11 (uF (uF (uF f 3 (iv a2_115)) 4 (iv fl_116)) 5 (iv (dp2_118 - 1)))), (hT, ar 160 T), (hC, ar 1700 (uZ C2_119 (340 * tx + k2_117) 9)), (hV, ar 1700 (uZ V2_120 (340 * tx + k2_117) 0)), (hN, ar 5 (uZ Nk tx (k2_117 + 1)))]) (by simp only [List.set]; rw [uF_same (k := 5)]) ?_
        refine S_goto (tgt := 94) X dX12_unit_44 (by decide) ?_
        exact S_vret X (nle rfl) (nle rfl) dX12_unit_94 (hPo _ (Or.inl ⟨_, _, _, _, _, _, rfl, by rw [hK2]; exact unit_nf (by omega) hq_123, by omega, by omega, by first | exact frm_0 | assumption | exact frm_r (by omega) (by omega) | exact frm_w (by assumption) (by omega) (by omega) | exact frm_p frm_0 (by omega) | exact frm_p (by assumption) (by omega) | exact frm_p (frm_w (by assumption) (by omega) (by omega)) (by omega), by first | exact frm_0 | assumption | exact frm_r (by omega) (by omega) | exact frm_w (by assumption) (by omega) (by omega) | exact frm_p frm_0 (by omega) | exact frm_p (by assumption) (by omega) | exact frm_p (frm_w (by assumption) (by omega) (by omega)) (by omega)⟩))
      ·
        subst hu_131
        refine ⟨rfl, ?_⟩
        refine S_w (ws' := [(h0, ob 11 (uF (uF (uF f 3 (iv a2_128)) 4 (iv (-1))) 5 (iv (dp + 1)))), (hT, ar 160 T), (hC, ar 1700 (wrL C (340 * tx + k) (List.map kC ts_129))), (hV, ar 1700 (wrL V (340 * tx + k) (List.map kV ts_129))), (hN, ar 5 (uZ Nk tx (k + ((ts_129).length : Int))))]) rfl ?_
        have ho_138 := (pUnit_ok (T := T) hn1 K2 (sk T n a + 1) (by omega) (by omega)).2 _ hq_132
        dsimp only at ho_138
        have hskb_138 := sk_in (T := T) (n := n) (a := a2_128) (by omega)
        refine S_aload_n X dX12_unit_27 rfl rfl ?_
        refine S_bipush X dX12_unit_28 rfl ?_
        refine S_iconst X dX12_unit_30 ?_
        refine S_callv X (kX12_put l h0 f a2_128 (-1) (dp + 1) hC hV hN (wrL C (340 * tx + k) (List.map kC ts_129)) (wrL V (340 * tx + k) (List.map kV ts_129)) Nk tx (k + ((ts_129).length : Int)) 9 0 hf2 hf3 hf4 hf5 (by omega) (by omega)) (is := [0, 2, 3, 4]) rfl (run_V X lkX12_140 0 rfl rfl (is := [0, 2, 3, 4]) (avs := [iv 9, iv 0]) (rest := []) rfl rfl (nle rfl) ⟨by simp only [rmD]; omega, by simp only [rmD]; omega⟩ ⟨nle rfl, nle rfl⟩ dX12_unit_31 (by decide) rfl) (fun u_139 hp_140 => ?_)
        have hu_143 := hp_140
        subst hu_143
        refine ⟨rfl, ?_⟩
        refine S_w (ws' := [(h0, ob 11 (uF (uF (uF f 3 (iv a2_128)) 4 (iv (-1))) 5 (iv (dp + 1)))), (hT, ar 160 T), (hC, ar 1700 (uZ (wrL C (340 * tx + k) (List.map kC ts_129)) (340 * tx + (k + ((ts_129).length : Int))) 9)), (hV, ar 1700 (uZ (wrL V (340 * tx + k) (List.map kV ts_129)) (340 * tx + (k + ((ts_129).length : Int))) 0)), (hN, ar 5 (uZ Nk tx ((k + ((ts_129).length : Int)) + 1)))]) rfl ?_
        refine S_w (ws' := [(h0, ob 11 (uF (uF (uF f 3 (iv a2_128)) 4 (iv (-1))) 5 (iv (dp + 1)))), (hT, ar 160 T), (hC, ar 1700 (wrL C (340 * tx + k) (List.map kC (ts_129 ++ [-33])))), (hV, ar 1700 (wrL V (340 * tx + k) (List.map kV (ts_129 ++ [-33])))), (hN, ar 5 (uZ Nk tx (k + ((ts_129 ++ [-33]).length : Int))))]) (by rw [rW_put (g := kC) (c0 := 9) (-33) rfl, rW_put (g := kV) (c0 := 0) (-33) rfl, rK_put (-33)]) ?_
        have hln_144 : (((ts_129 ++ [-33]).length : Nat) : Int) = _ := congrArg Nat.cast List.length_append
        rw [Int.natCast_add, List.length_singleton] at hln_144
        refine S_aload_n X dX12_unit_34 rfl rfl ?_
        refine S_dup X dX12_unit_35 ?_
        refine S_get (v := iv (dp + 1)) X fgX12_124_11 0 rfl rfl dX12_unit_36 ?_
        refine S_iconst X dX12_unit_39 ?_
        refine S_isub X dX12_unit_40 ?_
        refine S_put X fpX12_124_11 0 rfl FT_i dX12_unit_41 ?_
        refine S_w (ws' := [(h0, ob 11 (uF (uF (uF f 3 (iv a2_128)) 4 (iv (-1))) 5 (iv ((dp + 1) - 1)))), (hT, ar 160 T), (hC, ar 1700 (wrL C (340 * tx + k) (List.map kC (ts_129 ++ [-33])))), (hV, ar 1700 (wrL V (340 * tx + k) (List.map kV (ts_129 ++ [-33])))), (hN, ar 5 (uZ Nk tx (k + ((ts_129 ++ [-33]).length : Int))))]) (by simp only [List.set]; rw [uF_same (k := 5)]) ?_
        refine S_w (ws' := [(h0, ob 11 (uF (uF (uF f 3 (iv a2_128)) 4 (iv (-1))) 5 (iv dp))), (hT, ar 160 T), (hC, ar 1700 (wrL C (340 * tx + k) (List.map kC (ts_129 ++ [-33])))), (hV, ar 1700 (wrL V (340 * tx + k) (List.map kV (ts_129 ++ [-33])))), (hN, ar 5 (uZ Nk tx (k + ((ts_129 ++ [-33]).length : Int))))]) (by rw [show (dp + 1) - 1 = dp by omega]) ?_
        refine S_goto (tgt := 94) X dX12_unit_44 (by decide) ?_
        exact S_vret X (nle rfl) (nle rfl) dX12_unit_94 (hPo _ (Or.inr ⟨_, _, rfl, by rw [hK2]; exact unit_n (by omega) hq_132⟩))
end pt_22ref3
