/- 07.links.lean.txt -/
section pt_07links
theorem mT1 {w : Cond} (h : w ∈ tables_1_1) : w ∈ lw_tbl := List.mem_append_right _ (by unfold tables_1; exact List.mem_append_left _ h)
theorem mT2 {w : Cond} (h : w ∈ tables_1_2) : w ∈ lw_tbl := List.mem_append_right _ (by unfold tables_1; exact List.mem_append_right _ (List.mem_append_left _ h))
theorem mT3 {w : Cond} (h : w ∈ tables_1_3) : w ∈ lw_tbl := List.mem_append_right _ (by unfold tables_1; exact List.mem_append_right _ (List.mem_append_right _ (List.mem_append_left _ h)))
theorem mT4 {w : Cond} (h : w ∈ tables_1_4) : w ∈ lw_tbl := List.mem_append_right _ (by unfold tables_1; exact List.mem_append_right _ (List.mem_append_right _ (List.mem_append_right _ (List.mem_append_left _ h))))
theorem mT5 {w : Cond} (h : w ∈ tables_1_5) : w ∈ lw_tbl := List.mem_append_right _ (by unfold tables_1; exact List.mem_append_right _ (List.mem_append_right _ (List.mem_append_right _ (List.mem_append_right _ (List.mem_append_left _ h)))))
theorem mT6 {w : Cond} (h : w ∈ tables_1_6) : w ∈ lw_tbl := List.mem_append_right _ (by unfold tables_1; exact List.mem_append_right _ (List.mem_append_right _ (List.mem_append_right _ (List.mem_append_right _ (List.mem_append_right _ (List.mem_append_left _ h))))))
theorem mT7 {w : Cond} (h : w ∈ tables_1_7) : w ∈ lw_tbl := List.mem_append_right _ (by unfold tables_1; exact List.mem_append_right _ (List.mem_append_right _ (List.mem_append_right _ (List.mem_append_right _ (List.mem_append_right _ (List.mem_append_right _ (h)))))))
theorem mP1 {w : Cond} (h : w ∈ k2_sels lw_privs_1) : w ∈ lw_tbl := List.mem_append_left _ (by unfold lw_privs k2_sels; simp only [List.map_append]; unfold k2_sels at h; exact List.mem_append_left _ h)
theorem mP2 {w : Cond} (h : w ∈ k2_sels lw_privs_2) : w ∈ lw_tbl := List.mem_append_left _ (by unfold lw_privs k2_sels; simp only [List.map_append]; unfold k2_sels at h; exact List.mem_append_right _ (List.mem_append_left _ h))
theorem mP3 {w : Cond} (h : w ∈ k2_sels lw_privs_3) : w ∈ lw_tbl := List.mem_append_left _ (by unfold lw_privs k2_sels; simp only [List.map_append]; unfold k2_sels at h; exact List.mem_append_right _ (List.mem_append_right _ (List.mem_append_left _ h)))
theorem mP4 {w : Cond} (h : w ∈ k2_sels lw_privs_4) : w ∈ lw_tbl := List.mem_append_left _ (by unfold lw_privs k2_sels; simp only [List.map_append]; unfold k2_sels at h; exact List.mem_append_right _ (List.mem_append_right _ (List.mem_append_right _ (List.mem_append_left _ h))))
theorem mP5 {w : Cond} (h : w ∈ k2_sels lw_privs_5) : w ∈ lw_tbl := List.mem_append_left _ (by unfold lw_privs k2_sels; simp only [List.map_append]; unfold k2_sels at h; exact List.mem_append_right _ (List.mem_append_right _ (List.mem_append_right _ (List.mem_append_right _ (List.mem_append_left _ h)))))
theorem mP6 {w : Cond} (h : w ∈ k2_sels lw_privs_6) : w ∈ lw_tbl := List.mem_append_left _ (by unfold lw_privs k2_sels; simp only [List.map_append]; unfold k2_sels at h; exact List.mem_append_right _ (List.mem_append_right _ (List.mem_append_right _ (List.mem_append_right _ (List.mem_append_right _ (h))))))
theorem muw {w : Cond} {l : List Cond} (hl : w ∈ l → w ∈ lw_tbl) (i : Nat) (h : l[i]? = some w) (g : goodWord w = true) : w ∈ uw := List.mem_filter.mpr ⟨List.mem_append_left _ (hl (List.mem_of_getElem? h)), g⟩
theorem mnw {w : Cond} {l : List Cond} (hl : w ∈ l → w ∈ lw_tbl) (i : Nat) (h : l[i]? = some w) (g : nW w = true) : w ∈ nw := List.mem_filter.mpr ⟨hl (List.mem_of_getElem? h), g⟩
theorem mu {w : Cond} (i : Nat) (h : lw_tbl[i]? = some w) (g : goodWord w = true) : w ∈ uw := List.mem_filter.mpr ⟨List.mem_append_left _ (List.mem_of_getElem? h), g⟩
theorem mem_places {ws : List Cond} (ps : List Nat) (h : ws.map some = ps.map (fun i => lw_tbl[i]?)) (g : ws.all goodWord = true) : ∀ w ∈ ws, w ∈ uw := by
  intro w hw
  have h1 : some w ∈ ws.map some := List.mem_map.mpr ⟨w, hw, rfl⟩
  rw [h] at h1
  obtain ⟨i, -, hi⟩ := List.mem_map.mp h1
  exact mu i hi (List.all_eq_true.mp g w hw)
theorem m1710 : Cond.selects "BorrowedBeat$LawReader" ncM ncM ∈ uw := List.mem_filter.mpr ⟨List.mem_append_right _ (by unfold exW; simp), rfl⟩
theorem m1711 : Cond.selects "BorrowedBeat$TownReader" ncM ncM ∈ uw := List.mem_filter.mpr ⟨List.mem_append_right _ (by unfold exW; simp), rfl⟩
set_option maxRecDepth 100000 in
theorem m0 : Cond.selects "BorrowedBeat$LawReader" ⟨"BorrowedBeat$LawReader", "condition", "(I)Z"⟩ ⟨"BorrowedBeat$LawReader", "condition", "(I)Z"⟩ ∈ uw := muw mP1 0 rfl rfl
set_option maxRecDepth 100000 in
theorem m1 : Cond.selects "BorrowedBeat$LawReader" ⟨"BorrowedBeat$LawReader", "unit", "(I)Z"⟩ ⟨"BorrowedBeat$LawReader", "unit", "(I)Z"⟩ ∈ uw := muw mP1 1 rfl rfl
set_option maxRecDepth 100000 in
theorem m2 : Cond.selects "BorrowedBeat$LawReader" ⟨"BorrowedBeat$LawReader", "sum", "(I)Z"⟩ ⟨"BorrowedBeat$LawReader", "sum", "(I)Z"⟩ ∈ uw := muw mP1 2 rfl rfl
set_option maxRecDepth 100000 in
theorem m3 : Cond.selects "BorrowedBeat$LawReader" ⟨"BorrowedBeat$LawReader", "atom", "(I)Z"⟩ ⟨"BorrowedBeat$LawReader", "atom", "(I)Z"⟩ ∈ uw := muw mP1 3 rfl rfl
set_option maxRecDepth 100000 in
theorem m4 : Cond.selects "BorrowedBeat$LawReader" ⟨"BorrowedBeat$LawReader", "emit", "(I)Z"⟩ ⟨"BorrowedBeat$LawReader", "emit", "(I)Z"⟩ ∈ uw := muw mP1 4 rfl rfl
set_option maxRecDepth 100000 in
theorem m5 : Cond.selects "BorrowedBeat$LawReader" ⟨"BorrowedBeat$LawReader", "comparison", "(I)Z"⟩ ⟨"BorrowedBeat$LawReader", "comparison", "(I)Z"⟩ ∈ uw := muw mP1 5 rfl rfl
set_option maxRecDepth 100000 in
theorem m6 : Cond.selects "BorrowedBeat$LawReader" ⟨"BorrowedBeat$LawReader", "negated", "(I)Z"⟩ ⟨"BorrowedBeat$LawReader", "negated", "(I)Z"⟩ ∈ uw := muw mP1 6 rfl rfl
set_option maxRecDepth 100000 in
theorem m7 : Cond.selects "BorrowedBeat$LawReader" ⟨"BorrowedBeat$LawReader", "moreUnits", "(I)Z"⟩ ⟨"BorrowedBeat$LawReader", "moreUnits", "(I)Z"⟩ ∈ uw := muw mP1 7 rfl rfl
set_option maxRecDepth 100000 in
theorem m8 : Cond.selects "BorrowedBeat$LawReader" ⟨"BorrowedBeat$LawReader", "sumBehindCondition", "()Z"⟩ ⟨"BorrowedBeat$LawReader", "sumBehindCondition", "()Z"⟩ ∈ uw := muw mP1 8 rfl rfl
set_option maxRecDepth 100000 in
theorem m9 : Cond.selects "BorrowedBeat$TownReader" ⟨"BorrowedBeat$TownReader", "readItems", "(Z)Z"⟩ ⟨"BorrowedBeat$TownReader", "readItems", "(Z)Z"⟩ ∈ uw := muw mP1 9 rfl rfl
set_option maxRecDepth 100000 in
theorem m10 : Cond.selects "BorrowedBeat$TownReader" ⟨"BorrowedBeat$TownReader", "keep", "(ZII)V"⟩ ⟨"BorrowedBeat$TownReader", "keep", "(ZII)V"⟩ ∈ uw := muw mP1 10 rfl rfl
set_option maxRecDepth 100000 in
theorem m11 : Cond.selects "BorrowedBeat" ⟨"BorrowedBeat", "openTown", "()V"⟩ ⟨"BorrowedBeat", "openTown", "()V"⟩ ∈ uw := muw mP1 11 rfl rfl
set_option maxRecDepth 100000 in
theorem m12 : Cond.selects "BorrowedBeat" ⟨"BorrowedBeat", "mostOf", "(I)I"⟩ ⟨"BorrowedBeat", "mostOf", "(I)I"⟩ ∈ uw := muw mP1 12 rfl rfl
set_option maxRecDepth 100000 in
theorem m13 : Cond.selects "BorrowedBeat" ⟨"BorrowedBeat", "isPlayer", "(I)Z"⟩ ⟨"BorrowedBeat", "isPlayer", "(I)Z"⟩ ∈ uw := muw mP1 13 rfl rfl
set_option maxRecDepth 100000 in
theorem m14 : Cond.selects "BorrowedBeat" ⟨"BorrowedBeat", "mayTell", "(III)Z"⟩ ⟨"BorrowedBeat", "mayTell", "(III)Z"⟩ ∈ uw := muw mP1 14 rfl rfl
set_option maxRecDepth 100000 in
theorem m15 : Cond.selects "BorrowedBeat" ⟨"BorrowedBeat", "wetness", "(I)I"⟩ ⟨"BorrowedBeat", "wetness", "(I)I"⟩ ∈ uw := muw mP1 15 rfl rfl
set_option maxRecDepth 100000 in
theorem m16 : Cond.selects "BorrowedBeat$Law" ⟨"BorrowedBeat$Law", "worth", "(IILBorrowedBeat$Town;)I"⟩ ⟨"BorrowedBeat$Law", "worth", "(IILBorrowedBeat$Town;)I"⟩ ∈ uw := muw mP2 0 rfl rfl
set_option maxRecDepth 100000 in
theorem m17 : Cond.selects "BorrowedBeat$Law" ⟨"BorrowedBeat$Law", "push", "(I)V"⟩ ⟨"BorrowedBeat$Law", "push", "(I)V"⟩ ∈ uw := muw mP2 1 rfl rfl
set_option maxRecDepth 100000 in
theorem m18 : Cond.selects "BorrowedBeat$Law" ⟨"BorrowedBeat$Law", "pop", "()I"⟩ ⟨"BorrowedBeat$Law", "pop", "()I"⟩ ∈ uw := muw mP2 2 rfl rfl
set_option maxRecDepth 100000 in
theorem m19 : Cond.selects "BorrowedBeat$Law" ⟨"BorrowedBeat$Law", "work", "(IIILBorrowedBeat$Town;)V"⟩ ⟨"BorrowedBeat$Law", "work", "(IIILBorrowedBeat$Town;)V"⟩ ∈ uw := muw mP2 3 rfl rfl
set_option maxRecDepth 100000 in
theorem m20 : Cond.selects "BorrowedBeat" ⟨"BorrowedBeat", "isBar", "(I)Z"⟩ ⟨"BorrowedBeat", "isBar", "(I)Z"⟩ ∈ uw := muw mP2 4 rfl rfl
set_option maxRecDepth 100000 in
theorem m21 : Cond.selects "BorrowedBeat$Play" ⟨"BorrowedBeat$Play", "open", "(LBorrowedBeat$Score;)V"⟩ ⟨"BorrowedBeat$Play", "open", "(LBorrowedBeat$Score;)V"⟩ ∈ uw := muw mP2 5 rfl rfl
set_option maxRecDepth 100000 in
theorem m22 : Cond.selects "BorrowedBeat$Play" ⟨"BorrowedBeat$Play", "goOn", "(LBorrowedBeat$Score;I)V"⟩ ⟨"BorrowedBeat$Play", "goOn", "(LBorrowedBeat$Score;I)V"⟩ ∈ uw := muw mP2 6 rfl rfl
set_option maxRecDepth 100000 in
theorem m23 : Cond.selects "BorrowedBeat$Play" ⟨"BorrowedBeat$Play", "playBar", "(LBorrowedBeat$Score;I)I"⟩ ⟨"BorrowedBeat$Play", "playBar", "(LBorrowedBeat$Score;I)I"⟩ ∈ uw := muw mP2 7 rfl rfl
set_option maxRecDepth 100000 in
theorem m24 : Cond.selects "BorrowedBeat" ⟨"BorrowedBeat", "isOneOfTwo", "(I)Z"⟩ ⟨"BorrowedBeat", "isOneOfTwo", "(I)Z"⟩ ∈ uw := muw mP2 8 rfl rfl
set_option maxRecDepth 100000 in
theorem m25 : Cond.selects "BorrowedBeat$Play" ⟨"BorrowedBeat$Play", "soundsLike", "(II)Z"⟩ ⟨"BorrowedBeat$Play", "soundsLike", "(II)Z"⟩ ∈ uw := muw mP2 9 rfl rfl
set_option maxRecDepth 100000 in
theorem m26 : Cond.selects "BorrowedBeat$Play" ⟨"BorrowedBeat$Play", "placeOf", "(II)I"⟩ ⟨"BorrowedBeat$Play", "placeOf", "(II)I"⟩ ∈ uw := muw mP2 10 rfl rfl
set_option maxRecDepth 100000 in
theorem m27 : Cond.selects "BorrowedBeat$Play" ⟨"BorrowedBeat$Play", "order", "(III)I"⟩ ⟨"BorrowedBeat$Play", "order", "(III)I"⟩ ∈ uw := muw mP2 11 rfl rfl
set_option maxRecDepth 100000 in
theorem m28 : Cond.selects "BorrowedBeat$Play" ⟨"BorrowedBeat$Play", "apartFromAll", "(II)I"⟩ ⟨"BorrowedBeat$Play", "apartFromAll", "(II)I"⟩ ∈ uw := muw mP2 12 rfl rfl
set_option maxRecDepth 100000 in
theorem m29 : Cond.selects "BorrowedBeat" ⟨"BorrowedBeat", "isToldSo", "()Z"⟩ ⟨"BorrowedBeat", "isToldSo", "()Z"⟩ ∈ uw := muw mP2 13 rfl rfl
set_option maxRecDepth 100000 in
theorem m30 : Cond.selects "BorrowedBeat$MarkSearch" ⟨"BorrowedBeat$MarkSearch", "goOnFrom", "(ILBorrowedBeat$Play;LBorrowedBeat$Score;I)V"⟩ ⟨"BorrowedBeat$MarkSearch", "goOnFrom", "(ILBorrowedBeat$Play;LBorrowedBeat$Score;I)V"⟩ ∈ uw := muw mP2 14 rfl rfl
set_option maxRecDepth 100000 in
theorem m31 : Cond.selects "BorrowedBeat$MarkSearch" ⟨"BorrowedBeat$MarkSearch", "spreadBehind", "(ILBorrowedBeat$Play;LBorrowedBeat$Score;)I"⟩ ⟨"BorrowedBeat$MarkSearch", "spreadBehind", "(ILBorrowedBeat$Play;LBorrowedBeat$Score;)I"⟩ ∈ uw := muw mP2 15 rfl rfl
set_option maxRecDepth 100000 in
theorem m32 : Cond.selects "BorrowedBeat$MarkSearch" ⟨"BorrowedBeat$MarkSearch", "endBetter", "(II)V"⟩ ⟨"BorrowedBeat$MarkSearch", "endBetter", "(II)V"⟩ ∈ uw := muw mP3 0 rfl rfl
set_option maxRecDepth 100000 in
theorem m33 : Cond.selects "BorrowedBeat$MarkSearch" ⟨"BorrowedBeat$MarkSearch", "markBetter", "(III)V"⟩ ⟨"BorrowedBeat$MarkSearch", "markBetter", "(III)V"⟩ ∈ uw := muw mP3 1 rfl rfl
set_option maxRecDepth 100000 in
theorem m34 : Cond.selects "BorrowedBeat$WeekSearch" ⟨"BorrowedBeat$WeekSearch", "foresee", "(LBorrowedBeat$Town;LBorrowedBeat$Score;)V"⟩ ⟨"BorrowedBeat$WeekSearch", "foresee", "(LBorrowedBeat$Town;LBorrowedBeat$Score;)V"⟩ ∈ uw := muw mP3 2 rfl rfl
set_option maxRecDepth 100000 in
theorem m35 : Cond.selects "BorrowedBeat$WeekSearch" ⟨"BorrowedBeat$WeekSearch", "weigh", "(I)V"⟩ ⟨"BorrowedBeat$WeekSearch", "weigh", "(I)V"⟩ ∈ uw := muw mP3 3 rfl rfl
set_option maxRecDepth 100000 in
theorem m37 : Cond.selects "BorrowedBeatModel" ⟨"BorrowedBeatModel", "readTown", "()I"⟩ ⟨"BorrowedBeatModel", "readTown", "()I"⟩ ∈ uw := muw mP3 5 rfl rfl
set_option maxRecDepth 100000 in
theorem m38 : Cond.selects "BorrowedBeatModel" ⟨"BorrowedBeatModel", "look", "()I"⟩ ⟨"BorrowedBeatModel", "look", "()I"⟩ ∈ uw := muw mP3 6 rfl rfl
set_option maxRecDepth 100000 in
theorem m39 : Cond.selects "BorrowedBeatModel" ⟨"BorrowedBeatModel", "here", "()I"⟩ ⟨"BorrowedBeatModel", "here", "()I"⟩ ∈ uw := muw mP3 7 rfl rfl
set_option maxRecDepth 100000 in
theorem m40 : Cond.selects "BorrowedBeatModel" ⟨"BorrowedBeatModel", "playerText", "()V"⟩ ⟨"BorrowedBeatModel", "playerText", "()V"⟩ ∈ uw := muw mP3 8 rfl rfl
set_option maxRecDepth 100000 in
theorem m41 : Cond.selects "BorrowedBeatModel" ⟨"BorrowedBeatModel", "bad", "()V"⟩ ⟨"BorrowedBeatModel", "bad", "()V"⟩ ∈ uw := muw mP3 9 rfl rfl
set_option maxRecDepth 100000 in
theorem m42 : Cond.selects "BorrowedBeatModel" ⟨"BorrowedBeatModel", "number", "(II)I"⟩ ⟨"BorrowedBeatModel", "number", "(II)I"⟩ ∈ uw := muw mP3 10 rfl rfl
set_option maxRecDepth 100000 in
theorem m43 : Cond.selects "BorrowedBeatModel" ⟨"BorrowedBeatModel", "areTold", "()Z"⟩ ⟨"BorrowedBeatModel", "areTold", "()Z"⟩ ∈ uw := muw mP3 11 rfl rfl
set_option maxRecDepth 100000 in
theorem m44 : Cond.selects "BorrowedBeatModel" ⟨"BorrowedBeatModel", "readLaw", "(I)I"⟩ ⟨"BorrowedBeatModel", "readLaw", "(I)I"⟩ ∈ uw := muw mP3 12 rfl rfl
set_option maxRecDepth 100000 in
theorem m45 : Cond.selects "BorrowedBeatModel" ⟨"BorrowedBeatModel", "open", "(I)V"⟩ ⟨"BorrowedBeatModel", "open", "(I)V"⟩ ∈ uw := muw mP3 13 rfl rfl
set_option maxRecDepth 100000 in
theorem m46 : Cond.selects "BorrowedBeatModel" ⟨"BorrowedBeatModel", "clause", "()V"⟩ ⟨"BorrowedBeatModel", "clause", "()V"⟩ ∈ uw := muw mP3 14 rfl rfl
set_option maxRecDepth 100000 in
theorem m47 : Cond.selects "BorrowedBeatModel" ⟨"BorrowedBeatModel", "condition", "()V"⟩ ⟨"BorrowedBeatModel", "condition", "()V"⟩ ∈ uw := muw mP3 15 rfl rfl
set_option maxRecDepth 100000 in
theorem m48 : Cond.selects "BorrowedBeatModel" ⟨"BorrowedBeatModel", "unit", "()V"⟩ ⟨"BorrowedBeatModel", "unit", "()V"⟩ ∈ uw := muw mP4 0 rfl rfl
set_option maxRecDepth 100000 in
theorem m49 : Cond.selects "BorrowedBeatModel" ⟨"BorrowedBeatModel", "opens", "()V"⟩ ⟨"BorrowedBeatModel", "opens", "()V"⟩ ∈ uw := muw mP4 1 rfl rfl
set_option maxRecDepth 100000 in
theorem m50 : Cond.selects "BorrowedBeatModel" ⟨"BorrowedBeatModel", "put", "(II)V"⟩ ⟨"BorrowedBeatModel", "put", "(II)V"⟩ ∈ uw := muw mP4 2 rfl rfl
set_option maxRecDepth 100000 in
theorem m51 : Cond.selects "BorrowedBeatModel" ⟨"BorrowedBeatModel", "closes", "(I)V"⟩ ⟨"BorrowedBeatModel", "closes", "(I)V"⟩ ∈ uw := muw mP4 3 rfl rfl
set_option maxRecDepth 100000 in
theorem m52 : Cond.selects "BorrowedBeatModel" ⟨"BorrowedBeatModel", "sum", "()V"⟩ ⟨"BorrowedBeatModel", "sum", "()V"⟩ ∈ uw := muw mP4 4 rfl rfl
set_option maxRecDepth 100000 in
theorem m53 : Cond.selects "BorrowedBeatModel" ⟨"BorrowedBeatModel", "term", "()V"⟩ ⟨"BorrowedBeatModel", "term", "()V"⟩ ∈ uw := muw mP4 5 rfl rfl
set_option maxRecDepth 100000 in
theorem m54 : Cond.selects "BorrowedBeatModel" ⟨"BorrowedBeatModel", "atom", "()V"⟩ ⟨"BorrowedBeatModel", "atom", "()V"⟩ ∈ uw := muw mP4 6 rfl rfl
set_option maxRecDepth 100000 in
theorem m55 : Cond.selects "BorrowedBeatModel" ⟨"BorrowedBeatModel", "plainNumber", "()I"⟩ ⟨"BorrowedBeatModel", "plainNumber", "()I"⟩ ∈ uw := muw mP4 7 rfl rfl
set_option maxRecDepth 100000 in
theorem m56 : Cond.selects "BorrowedBeatModel" ⟨"BorrowedBeatModel", "compare", "()V"⟩ ⟨"BorrowedBeatModel", "compare", "()V"⟩ ∈ uw := muw mP4 8 rfl rfl
set_option maxRecDepth 100000 in
theorem m57 : Cond.selects "BorrowedBeatModel" ⟨"BorrowedBeatModel", "goOnAnd", "()V"⟩ ⟨"BorrowedBeatModel", "goOnAnd", "()V"⟩ ∈ uw := muw mP4 9 rfl rfl
set_option maxRecDepth 100000 in
theorem m58 : Cond.selects "BorrowedBeatModel" ⟨"BorrowedBeatModel", "goOnOr", "()V"⟩ ⟨"BorrowedBeatModel", "goOnOr", "()V"⟩ ∈ uw := muw mP4 10 rfl rfl
set_option maxRecDepth 100000 in
theorem m59 : Cond.selects "BorrowedBeatModel" ⟨"BorrowedBeatModel", "atEnd", "()I"⟩ ⟨"BorrowedBeatModel", "atEnd", "()I"⟩ ∈ uw := muw mP4 11 rfl rfl
set_option maxRecDepth 100000 in
theorem m60 : Cond.selects "BorrowedBeatModel" ⟨"BorrowedBeatModel", "takeTown", "()I"⟩ ⟨"BorrowedBeatModel", "takeTown", "()I"⟩ ∈ uw := muw mP4 12 rfl rfl
set_option maxRecDepth 100000 in
theorem m61 : Cond.selects "BorrowedBeatModel" ⟨"BorrowedBeatModel", "isPlayer", "(I)Z"⟩ ⟨"BorrowedBeatModel", "isPlayer", "(I)Z"⟩ ∈ uw := muw mP4 13 rfl rfl
set_option maxRecDepth 100000 in
theorem m62 : Cond.selects "BorrowedBeatModel" ⟨"BorrowedBeatModel", "of", "(II)I"⟩ ⟨"BorrowedBeatModel", "of", "(II)I"⟩ ∈ uw := muw mP4 14 rfl rfl
set_option maxRecDepth 100000 in
theorem m63 : Cond.selects "BorrowedBeatModel" ⟨"BorrowedBeatModel", "dampOf", "(I)I"⟩ ⟨"BorrowedBeatModel", "dampOf", "(I)I"⟩ ∈ uw := muw mP4 15 rfl rfl
set_option maxRecDepth 100000 in
theorem m64 : Cond.selects "BorrowedBeatModel" ⟨"BorrowedBeatModel", "worthOf", "(I)I"⟩ ⟨"BorrowedBeatModel", "worthOf", "(I)I"⟩ ∈ uw := muw mP5 0 rfl rfl
set_option maxRecDepth 100000 in
theorem m65 : Cond.selects "BorrowedBeatModel" ⟨"BorrowedBeatModel", "workOut", "(III)I"⟩ ⟨"BorrowedBeatModel", "workOut", "(III)I"⟩ ∈ uw := muw mP5 1 rfl rfl
set_option maxRecDepth 100000 in
theorem m66 : Cond.selects "BorrowedBeatModel" ⟨"BorrowedBeatModel", "pass", "(II)V"⟩ ⟨"BorrowedBeatModel", "pass", "(II)V"⟩ ∈ uw := muw mP5 2 rfl rfl
set_option maxRecDepth 100000 in
theorem m67 : Cond.selects "BorrowedBeatModel" ⟨"BorrowedBeatModel", "isBar", "(I)Z"⟩ ⟨"BorrowedBeatModel", "isBar", "(I)Z"⟩ ∈ uw := muw mP5 3 rfl rfl
set_option maxRecDepth 100000 in
theorem m68 : Cond.selects "BorrowedBeatModel" ⟨"BorrowedBeatModel", "play", "()V"⟩ ⟨"BorrowedBeatModel", "play", "()V"⟩ ∈ uw := muw mP5 4 rfl rfl
set_option maxRecDepth 100000 in
theorem m69 : Cond.selects "BorrowedBeatModel" ⟨"BorrowedBeatModel", "layBeats", "(I)V"⟩ ⟨"BorrowedBeatModel", "layBeats", "(I)V"⟩ ∈ uw := muw mP5 5 rfl rfl
set_option maxRecDepth 100000 in
theorem m70 : Cond.selects "BorrowedBeatModel" ⟨"BorrowedBeatModel", "beatBehind", "(II)I"⟩ ⟨"BorrowedBeatModel", "beatBehind", "(II)I"⟩ ∈ uw := muw mP5 6 rfl rfl
set_option maxRecDepth 100000 in
theorem m71 : Cond.selects "BorrowedBeatModel" ⟨"BorrowedBeatModel", "spreadAt", "(I)I"⟩ ⟨"BorrowedBeatModel", "spreadAt", "(I)I"⟩ ∈ uw := muw mP5 7 rfl rfl
set_option maxRecDepth 100000 in
theorem m72 : Cond.selects "BorrowedBeatModel" ⟨"BorrowedBeatModel", "worstNow", "()I"⟩ ⟨"BorrowedBeatModel", "worstNow", "()I"⟩ ∈ uw := muw mP5 8 rfl rfl
set_option maxRecDepth 100000 in
theorem m73 : Cond.selects "BorrowedBeatModel" ⟨"BorrowedBeatModel", "worstBar", "()I"⟩ ⟨"BorrowedBeatModel", "worstBar", "()I"⟩ ∈ uw := muw mP5 9 rfl rfl
set_option maxRecDepth 100000 in
theorem m74 : Cond.selects "BorrowedBeatModel" ⟨"BorrowedBeatModel", "lastAt", "(I)I"⟩ ⟨"BorrowedBeatModel", "lastAt", "(I)I"⟩ ∈ uw := muw mP5 10 rfl rfl
set_option maxRecDepth 100000 in
theorem m75 : Cond.selects "BorrowedBeatModel" ⟨"BorrowedBeatModel", "areLike", "(II)Z"⟩ ⟨"BorrowedBeatModel", "areLike", "(II)Z"⟩ ∈ uw := muw mP5 11 rfl rfl
set_option maxRecDepth 100000 in
theorem m76 : Cond.selects "BorrowedBeatModel" ⟨"BorrowedBeatModel", "weekFrom", "(II)V"⟩ ⟨"BorrowedBeatModel", "weekFrom", "(II)V"⟩ ∈ uw := muw mP5 12 rfl rfl
set_option maxRecDepth 100000 in
theorem m77 : Cond.selects "BorrowedBeatModel" ⟨"BorrowedBeatModel", "keepBeats", "(I)V"⟩ ⟨"BorrowedBeatModel", "keepBeats", "(I)V"⟩ ∈ uw := muw mP5 13 rfl rfl
set_option maxRecDepth 100000 in
theorem m78 : Cond.selects "BorrowedBeatModel" ⟨"BorrowedBeatModel", "takeBeats", "(I)V"⟩ ⟨"BorrowedBeatModel", "takeBeats", "(I)V"⟩ ∈ uw := muw mP5 14 rfl rfl
set_option maxRecDepth 100000 in
theorem m79 : Cond.selects "BorrowedBeatModel" ⟨"BorrowedBeatModel", "marksFrom", "(I)V"⟩ ⟨"BorrowedBeatModel", "marksFrom", "(I)V"⟩ ∈ uw := muw mP5 15 rfl rfl
set_option maxRecDepth 100000 in
theorem m80 : Cond.selects "BorrowedBeatModel" ⟨"BorrowedBeatModel", "oddsFrom", "(III)I"⟩ ⟨"BorrowedBeatModel", "oddsFrom", "(III)I"⟩ ∈ uw := muw mP6 0 rfl rfl
set_option maxRecDepth 100000 in
theorem m81 : Cond.selects "BorrowedBeatModel" ⟨"BorrowedBeatModel", "isAloneLast", "(I)Z"⟩ ⟨"BorrowedBeatModel", "isAloneLast", "(I)Z"⟩ ∈ uw := muw mP6 1 rfl rfl
set_option maxRecDepth 100000 in
theorem m82 : Cond.selects "BorrowedBeatModel" ⟨"BorrowedBeatModel", "agrees", "()Z"⟩ ⟨"BorrowedBeatModel", "agrees", "()Z"⟩ ∈ uw := muw mP6 2 rfl rfl
set_option maxRecDepth 100000 in
theorem m83 : Cond.selects "BorrowedBeatModel" ⟨"BorrowedBeatModel", "aheadAt", "(III)I"⟩ ⟨"BorrowedBeatModel", "aheadAt", "(III)I"⟩ ∈ uw := muw mP6 3 rfl rfl
set_option maxRecDepth 100000 in
theorem m84 : Cond.initialized "BorrowedBeatLaw" ∈ uw := muw mT1 0 rfl rfl
set_option maxRecDepth 100000 in
theorem m85 : Cond.initialized "BorrowedBeat" ∈ uw := muw mT1 1 rfl rfl
set_option maxRecDepth 100000 in
theorem m86 : Cond.initialized "BorrowedBeat$Tape" ∈ uw := muw mT1 2 rfl rfl
set_option maxRecDepth 100000 in
theorem m87 : Cond.initialized "BorrowedBeat$Reader" ∈ uw := muw mT1 3 rfl rfl
set_option maxRecDepth 100000 in
theorem m88 : Cond.initialized "BorrowedBeat$TownReader" ∈ uw := muw mT1 4 rfl rfl
set_option maxRecDepth 100000 in
theorem m89 : Cond.initialized "BorrowedBeat$Town" ∈ uw := muw mT1 5 rfl rfl
set_option maxRecDepth 100000 in
theorem m90 : Cond.initialized "BorrowedBeat$LawReader" ∈ uw := muw mT1 6 rfl rfl
set_option maxRecDepth 100000 in
theorem m91 : Cond.initialized "BorrowedBeat$Diary" ∈ uw := muw mT1 7 rfl rfl
set_option maxRecDepth 100000 in
theorem m92 : Cond.initialized "BorrowedBeat$Score" ∈ uw := muw mT1 8 rfl rfl
set_option maxRecDepth 100000 in
theorem m93 : Cond.initialized "BorrowedBeat$Play" ∈ uw := muw mT1 9 rfl rfl
set_option maxRecDepth 100000 in
theorem m94 : Cond.initialized "BorrowedBeat$MarkSearch" ∈ uw := muw mT1 10 rfl rfl
set_option maxRecDepth 100000 in
theorem m95 : Cond.initialized "BorrowedBeat$WeekSearch" ∈ uw := muw mT1 11 rfl rfl
set_option maxRecDepth 100000 in
theorem m96 : Cond.initialized "BorrowedBeatModel" ∈ uw := muw mT1 12 rfl rfl
set_option maxRecDepth 100000 in
theorem m97 : Cond.initialized "java/lang/System" ∈ uw := muw mT1 13 rfl rfl
set_option maxRecDepth 100000 in
theorem m98 : Cond.initialized "java/util/Arrays" ∈ uw := muw mT1 14 rfl rfl
set_option maxRecDepth 100000 in
theorem m99 : Cond.initialized "BorrowedBeat$Law" ∈ uw := muw mT1 15 rfl rfl
set_option maxRecDepth 100000 in
theorem m100 : Cond.initialized "java/lang/Math" ∈ uw := muw mT1 16 rfl rfl
set_option maxRecDepth 100000 in
theorem m101 : Cond.initialized "java/lang/Throwable" ∈ uw := muw mT1 17 rfl rfl
set_option maxRecDepth 100000 in
theorem m102 : Cond.initialized "java/lang/Exception" ∈ uw := muw mT1 18 rfl rfl
set_option maxRecDepth 100000 in
theorem m103 : Cond.initialized "java/lang/RuntimeException" ∈ uw := muw mT1 19 rfl rfl
set_option maxRecDepth 100000 in
theorem m104 : Cond.initialized "java/util/NoSuchElementException" ∈ uw := muw mT1 20 rfl rfl
set_option maxRecDepth 100000 in
theorem m105 : Cond.initialized "java/lang/Integer" ∈ uw := muw mT1 21 rfl rfl
set_option maxRecDepth 100000 in
theorem m106 : Cond.classLink "BorrowedBeatLaw" 8 "BorrowedBeat" ∈ uw := muw mT1 22 rfl rfl
set_option maxRecDepth 100000 in
theorem m107 : Cond.instantiable "BorrowedBeat" 16 ∈ uw := muw mT1 23 rfl rfl
set_option maxRecDepth 100000 in
theorem m108 : Cond.methodLink "BorrowedBeatLaw" 15 ⟨"BorrowedBeat", "<init>", "()V"⟩ ∈ uw := muw mT1 24 rfl rfl
set_option maxRecDepth 100000 in
theorem m109 : Cond.instanceMethod ⟨"BorrowedBeat", "<init>", "()V"⟩ ∈ uw := muw mT1 25 rfl rfl
set_option maxRecDepth 100000 in
theorem m110 : Cond.code ⟨"BorrowedBeat", "<init>", "()V"⟩ prog_1_method_1_code 1 none ∈ uw := muw mT1 26 rfl rfl
set_option maxRecDepth 100000 in
theorem m111 : Cond.methodLink "BorrowedBeat" 1 ⟨"java/lang/Object", "<init>", "()V"⟩ ∈ uw := muw mT1 27 rfl rfl
set_option maxRecDepth 100000 in
theorem m112 : Cond.instanceMethod ⟨"java/lang/Object", "<init>", "()V"⟩ ∈ uw := muw mT1 28 rfl rfl
set_option maxRecDepth 100000 in
theorem m113 : Cond.code ⟨"java/lang/Object", "<init>", "()V"⟩ object_method_1_code 1 none ∈ uw := muw mT1 29 rfl rfl
set_option maxRecDepth 100000 in
theorem m114 : Cond.classLink "BorrowedBeat" 7 "BorrowedBeat$Tape" ∈ uw := muw mT1 30 rfl rfl
set_option maxRecDepth 100000 in
theorem m115 : Cond.instantiable "BorrowedBeat$Tape" 2 ∈ uw := muw mT1 31 rfl rfl
set_option maxRecDepth 100000 in
theorem mn116 : Cond.methodLinkNest "BorrowedBeat" 9 ⟨"BorrowedBeat$Tape", "<init>", "()V"⟩ "BorrowedBeat" ∈ nw := mnw mT1 32 rfl rfl
set_option maxRecDepth 100000 in
theorem m117 : Cond.instanceMethod ⟨"BorrowedBeat$Tape", "<init>", "()V"⟩ ∈ uw := muw mT1 33 rfl rfl
set_option maxRecDepth 100000 in
theorem m118 : Cond.code ⟨"BorrowedBeat$Tape", "<init>", "()V"⟩ prog_9_method_1_code 1 none ∈ uw := muw mT1 34 rfl rfl
set_option maxRecDepth 100000 in
theorem m119 : Cond.methodLink "BorrowedBeat$Tape" 1 ⟨"java/lang/Object", "<init>", "()V"⟩ ∈ uw := muw mT1 35 rfl rfl
set_option maxRecDepth 100000 in
theorem m120 : Cond.fieldLink "BorrowedBeat$Tape" 9 "BorrowedBeat$Tape" "bytes" "[I" ∈ uw := muw mT1 36 rfl rfl
set_option maxRecDepth 100000 in
theorem m121 : Cond.fieldLink "BorrowedBeat$Reader" 51 "BorrowedBeat$Tape" "bytes" "[I" ∈ uw := muw mT1 37 rfl rfl
set_option maxRecDepth 100000 in
theorem m122 : Cond.fieldLink "BorrowedBeat" 100 "BorrowedBeat$Tape" "length" "I" ∈ uw := muw mT1 38 rfl rfl
set_option maxRecDepth 100000 in
theorem m123 : Cond.fieldLink "BorrowedBeat$Tape" 13 "BorrowedBeat$Tape" "length" "I" ∈ uw := muw mT1 39 rfl rfl
set_option maxRecDepth 100000 in
theorem m124 : Cond.fieldLink "BorrowedBeat$Reader" 37 "BorrowedBeat$Tape" "length" "I" ∈ uw := muw mT1 40 rfl rfl
set_option maxRecDepth 100000 in
theorem m130 : Cond.arrayClass ClassFile.FieldType.int ∈ uw := muw mT1 46 rfl rfl
set_option maxRecDepth 100000 in
theorem m131 : Cond.classLink "BorrowedBeat" 16 "BorrowedBeat$TownReader" ∈ uw := muw mT1 47 rfl rfl
set_option maxRecDepth 100000 in
theorem m132 : Cond.instantiable "BorrowedBeat$TownReader" 5 ∈ uw := muw mT1 48 rfl rfl
set_option maxRecDepth 100000 in
theorem m133 : Cond.methodLink "BorrowedBeat" 18 ⟨"BorrowedBeat$TownReader", "<init>", "(LBorrowedBeat$Tape;)V"⟩ ∈ uw := muw mT1 49 rfl rfl
set_option maxRecDepth 100000 in
theorem m134 : Cond.instanceMethod ⟨"BorrowedBeat$TownReader", "<init>", "(LBorrowedBeat$Tape;)V"⟩ ∈ uw := muw mT1 50 rfl rfl
set_option maxRecDepth 100000 in
theorem m135 : Cond.code ⟨"BorrowedBeat$TownReader", "<init>", "(LBorrowedBeat$Tape;)V"⟩ prog_11_method_1_code 2 none ∈ uw := muw mT1 51 rfl rfl
set_option maxRecDepth 100000 in
theorem m136 : Cond.methodLink "BorrowedBeat$TownReader" 3 ⟨"BorrowedBeat$Reader", "<init>", "(LBorrowedBeat$Tape;)V"⟩ ∈ uw := muw mT1 52 rfl rfl
set_option maxRecDepth 100000 in
theorem m137 : Cond.instanceMethod ⟨"BorrowedBeat$Reader", "<init>", "(LBorrowedBeat$Tape;)V"⟩ ∈ uw := muw mT1 53 rfl rfl
set_option maxRecDepth 100000 in
theorem m138 : Cond.code ⟨"BorrowedBeat$Reader", "<init>", "(LBorrowedBeat$Tape;)V"⟩ prog_7_method_1_code 2 none ∈ uw := muw mT1 54 rfl rfl
set_option maxRecDepth 100000 in
theorem m139 : Cond.methodLink "BorrowedBeat$Reader" 3 ⟨"java/lang/Object", "<init>", "()V"⟩ ∈ uw := muw mT1 55 rfl rfl
set_option maxRecDepth 100000 in
theorem m140 : Cond.classLink "BorrowedBeat$TownReader" 9 "BorrowedBeat$Town" ∈ uw := muw mT1 56 rfl rfl
set_option maxRecDepth 100000 in
theorem m141 : Cond.instantiable "BorrowedBeat$Town" 7 ∈ uw := muw mT1 57 rfl rfl
set_option maxRecDepth 100000 in
theorem mn142 : Cond.methodLinkNest "BorrowedBeat$TownReader" 11 ⟨"BorrowedBeat$Town", "<init>", "()V"⟩ "BorrowedBeat" ∈ nw := mnw mT1 58 rfl rfl
set_option maxRecDepth 100000 in
theorem m143 : Cond.instanceMethod ⟨"BorrowedBeat$Town", "<init>", "()V"⟩ ∈ uw := muw mT1 59 rfl rfl
set_option maxRecDepth 100000 in
theorem m144 : Cond.code ⟨"BorrowedBeat$Town", "<init>", "()V"⟩ prog_10_method_1_code 1 none ∈ uw := muw mT1 60 rfl rfl
set_option maxRecDepth 100000 in
theorem m145 : Cond.methodLink "BorrowedBeat$Town" 3 ⟨"java/lang/Object", "<init>", "()V"⟩ ∈ uw := muw mT1 61 rfl rfl
set_option maxRecDepth 100000 in
theorem m146 : Cond.fieldLink "BorrowedBeat$Town" 31 "BorrowedBeat$Town" "players" "I" ∈ uw := muw mT1 62 rfl rfl
set_option maxRecDepth 100000 in
theorem m147 : Cond.fieldLink "BorrowedBeat$Score" 28 "BorrowedBeat$Town" "players" "I" ∈ uw := muw mT1 63 rfl rfl
set_option maxRecDepth 100000 in
theorem m148 : Cond.fieldLink "BorrowedBeat$TownReader" 31 "BorrowedBeat$Town" "players" "I" ∈ uw := muw mT1 64 rfl rfl
set_option maxRecDepth 100000 in
theorem m149 : Cond.fieldLink "BorrowedBeat$WeekSearch" 62 "BorrowedBeat$Town" "players" "I" ∈ uw := muw mT1 65 rfl rfl
set_option maxRecDepth 100000 in
theorem m150 : Cond.fieldLink "BorrowedBeat" 115 "BorrowedBeat$Town" "players" "I" ∈ uw := muw mT1 66 rfl rfl
set_option maxRecDepth 100000 in
theorem m151 : Cond.fieldLink "BorrowedBeat$Law" 53 "BorrowedBeat$Town" "players" "I" ∈ uw := muw mT1 67 rfl rfl
set_option maxRecDepth 100000 in
theorem m152 : Cond.fieldLink "BorrowedBeat$Town" 9 "BorrowedBeat$Town" "metronome" "I" ∈ uw := muw mT1 68 rfl rfl
set_option maxRecDepth 100000 in
theorem m153 : Cond.fieldLink "BorrowedBeat$WeekSearch" 65 "BorrowedBeat$Town" "metronome" "I" ∈ uw := muw mT1 69 rfl rfl
set_option maxRecDepth 100000 in
theorem m154 : Cond.fieldLink "BorrowedBeat$Law" 48 "BorrowedBeat$Town" "metronome" "I" ∈ uw := muw mT1 70 rfl rfl
set_option maxRecDepth 100000 in
theorem m155 : Cond.fieldLink "BorrowedBeat$TownReader" 68 "BorrowedBeat$Town" "metronome" "I" ∈ uw := muw mT1 71 rfl rfl
set_option maxRecDepth 100000 in
theorem m156 : Cond.fieldLink "BorrowedBeat" 335 "BorrowedBeat$Town" "metronome" "I" ∈ uw := muw mT1 72 rfl rfl
set_option maxRecDepth 100000 in
theorem m157 : Cond.fieldLink "BorrowedBeat$Town" 15 "BorrowedBeat$Town" "beats" "[I" ∈ uw := muw mT1 73 rfl rfl
set_option maxRecDepth 100000 in
theorem m158 : Cond.fieldLink "BorrowedBeat$Score" 37 "BorrowedBeat$Town" "beats" "[I" ∈ uw := muw mT1 74 rfl rfl
set_option maxRecDepth 100000 in
theorem m159 : Cond.fieldLink "BorrowedBeat" 161 "BorrowedBeat$Town" "beats" "[I" ∈ uw := muw mT1 75 rfl rfl
set_option maxRecDepth 100000 in
theorem m160 : Cond.fieldLink "BorrowedBeat$Town" 19 "BorrowedBeat$Town" "drifts" "[I" ∈ uw := muw mT1 76 rfl rfl
set_option maxRecDepth 100000 in
theorem m161 : Cond.fieldLink "BorrowedBeat" 162 "BorrowedBeat$Town" "drifts" "[I" ∈ uw := muw mT1 77 rfl rfl
set_option maxRecDepth 100000 in
theorem m162 : Cond.fieldLink "BorrowedBeat$Town" 22 "BorrowedBeat$Town" "kinds" "[I" ∈ uw := muw mT1 78 rfl rfl
set_option maxRecDepth 100000 in
theorem m163 : Cond.fieldLink "BorrowedBeat" 165 "BorrowedBeat$Town" "kinds" "[I" ∈ uw := muw mT1 79 rfl rfl
set_option maxRecDepth 100000 in
theorem m164 : Cond.fieldLink "BorrowedBeat$Town" 25 "BorrowedBeat$Town" "follows" "[I" ∈ uw := muw mT1 80 rfl rfl
set_option maxRecDepth 100000 in
theorem m165 : Cond.fieldLink "BorrowedBeat$Score" 44 "BorrowedBeat$Town" "follows" "[I" ∈ uw := muw mT1 81 rfl rfl
set_option maxRecDepth 100000 in
theorem m166 : Cond.fieldLink "BorrowedBeat$TownReader" 75 "BorrowedBeat$Town" "follows" "[I" ∈ uw := muw mT1 82 rfl rfl
set_option maxRecDepth 100000 in
theorem m167 : Cond.fieldLink "BorrowedBeat$Town" 28 "BorrowedBeat$Town" "hows" "[I" ∈ uw := muw mT1 83 rfl rfl
set_option maxRecDepth 100000 in
theorem m168 : Cond.fieldLink "BorrowedBeat$Score" 45 "BorrowedBeat$Town" "hows" "[I" ∈ uw := muw mT1 84 rfl rfl
set_option maxRecDepth 100000 in
theorem m184 : Cond.fieldLink "BorrowedBeat$TownReader" 14 "BorrowedBeat$TownReader" "draft" "LBorrowedBeat$Town;" ∈ uw := muw mT1 100 rfl rfl
set_option maxRecDepth 100000 in
theorem m185 : Cond.fieldLink "BorrowedBeat" 125 "BorrowedBeat$TownReader" "draft" "LBorrowedBeat$Town;" ∈ uw := muw mT1 101 rfl rfl
set_option maxRecDepth 100000 in
theorem m186 : Cond.fieldLink "BorrowedBeat$TownReader" 23 "BorrowedBeat$TownReader" "hasMetronome" "Z" ∈ uw := muw mT1 102 rfl rfl
set_option maxRecDepth 100000 in
theorem m187 : Cond.fieldLink "BorrowedBeat$Reader" 9 "BorrowedBeat$Reader" "tape" "LBorrowedBeat$Tape;" ∈ uw := muw mT1 103 rfl rfl
set_option maxRecDepth 100000 in
theorem m188 : Cond.fieldLink "BorrowedBeat$TownReader" 35 "BorrowedBeat$TownReader" "at" "I" ∈ uw := muw mT1 104 rfl rfl
set_option maxRecDepth 100000 in
theorem m189 : Cond.sameField "BorrowedBeat$TownReader" "BorrowedBeat$Reader" "at" "I" ∈ uw := muw mT1 105 rfl rfl
set_option maxRecDepth 100000 in
theorem m190 : Cond.fieldLink "BorrowedBeat$Reader" 15 "BorrowedBeat$Reader" "at" "I" ∈ uw := muw mT1 106 rfl rfl
set_option maxRecDepth 100000 in
theorem m191 : Cond.fieldLink "BorrowedBeat$LawReader" 68 "BorrowedBeat$LawReader" "at" "I" ∈ uw := muw mT1 107 rfl rfl
set_option maxRecDepth 100000 in
theorem m192 : Cond.sameField "BorrowedBeat$LawReader" "BorrowedBeat$Reader" "at" "I" ∈ uw := muw mT1 108 rfl rfl
set_option maxRecDepth 100000 in
theorem m193 : Cond.fieldLink "BorrowedBeat$Reader" 19 "BorrowedBeat$Reader" "faultAt" "I" ∈ uw := muw mT1 109 rfl rfl
set_option maxRecDepth 100000 in
theorem m205 : Cond.classLink "BorrowedBeat" 25 "BorrowedBeat$LawReader" ∈ uw := muw mT1 121 rfl rfl
set_option maxRecDepth 100000 in
theorem m206 : Cond.instantiable "BorrowedBeat$LawReader" 5 ∈ uw := muw mT1 122 rfl rfl
set_option maxRecDepth 100000 in
theorem m207 : Cond.methodLink "BorrowedBeat" 27 ⟨"BorrowedBeat$LawReader", "<init>", "(LBorrowedBeat$Tape;)V"⟩ ∈ uw := muw mT1 123 rfl rfl
set_option maxRecDepth 100000 in
theorem m208 : Cond.instanceMethod ⟨"BorrowedBeat$LawReader", "<init>", "(LBorrowedBeat$Tape;)V"⟩ ∈ uw := muw mT1 124 rfl rfl
set_option maxRecDepth 100000 in
theorem m209 : Cond.code ⟨"BorrowedBeat$LawReader", "<init>", "(LBorrowedBeat$Tape;)V"⟩ prog_4_method_1_code 2 none ∈ uw := muw mT1 125 rfl rfl
set_option maxRecDepth 100000 in
theorem m210 : Cond.methodLink "BorrowedBeat$LawReader" 3 ⟨"BorrowedBeat$Reader", "<init>", "(LBorrowedBeat$Tape;)V"⟩ ∈ uw := muw mT1 126 rfl rfl
set_option maxRecDepth 100000 in
theorem m211 : Cond.fieldLink "BorrowedBeat$LawReader" 11 "BorrowedBeat$LawReader" "code" "[I" ∈ uw := muw mT1 127 rfl rfl
set_option maxRecDepth 100000 in
theorem m212 : Cond.fieldLink "BorrowedBeat$LawReader" 17 "BorrowedBeat$LawReader" "length" "I" ∈ uw := muw mT1 128 rfl rfl
set_option maxRecDepth 100000 in
theorem m221 : Cond.classLink "BorrowedBeat" 32 "BorrowedBeat$Town" ∈ uw := muw mT1 137 rfl rfl
set_option maxRecDepth 100000 in
theorem mn222 : Cond.methodLinkNest "BorrowedBeat" 34 ⟨"BorrowedBeat$Town", "<init>", "()V"⟩ "BorrowedBeat" ∈ nw := mnw mT1 138 rfl rfl
set_option maxRecDepth 100000 in
theorem m223 : Cond.classLink "BorrowedBeat" 39 "BorrowedBeat$Law" ∈ uw := muw mT1 139 rfl rfl
set_option maxRecDepth 100000 in
theorem m225 : Cond.classLink "BorrowedBeat" 45 "BorrowedBeat$Diary" ∈ uw := muw mT1 141 rfl rfl
set_option maxRecDepth 100000 in
theorem m226 : Cond.instantiable "BorrowedBeat$Diary" 7 ∈ uw := muw mT1 142 rfl rfl
set_option maxRecDepth 100000 in
theorem mn227 : Cond.methodLinkNest "BorrowedBeat" 47 ⟨"BorrowedBeat$Diary", "<init>", "()V"⟩ "BorrowedBeat" ∈ nw := mnw mT1 143 rfl rfl
set_option maxRecDepth 100000 in
theorem m228 : Cond.instanceMethod ⟨"BorrowedBeat$Diary", "<init>", "()V"⟩ ∈ uw := muw mT1 144 rfl rfl
set_option maxRecDepth 100000 in
theorem m229 : Cond.code ⟨"BorrowedBeat$Diary", "<init>", "()V"⟩ prog_2_method_1_code 1 none ∈ uw := muw mT1 145 rfl rfl
set_option maxRecDepth 100000 in
theorem m230 : Cond.methodLink "BorrowedBeat$Diary" 3 ⟨"java/lang/Object", "<init>", "()V"⟩ ∈ uw := muw mT1 146 rfl rfl
set_option maxRecDepth 100000 in
theorem m231 : Cond.fieldLink "BorrowedBeat$Diary" 18 "BorrowedBeat$Diary" "today" "I" ∈ uw := muw mT1 147 rfl rfl
set_option maxRecDepth 100000 in
theorem m232 : Cond.fieldLink "BorrowedBeat" 205 "BorrowedBeat$Diary" "today" "I" ∈ uw := muw mT1 148 rfl rfl
set_option maxRecDepth 100000 in
theorem m233 : Cond.fieldLink "BorrowedBeat$Diary" 22 "BorrowedBeat$Diary" "undoable" "I" ∈ uw := muw mT1 149 rfl rfl
set_option maxRecDepth 100000 in
theorem m234 : Cond.fieldLink "BorrowedBeat" 216 "BorrowedBeat$Diary" "undoable" "I" ∈ uw := muw mT1 150 rfl rfl
set_option maxRecDepth 100000 in
theorem m235 : Cond.fieldLink "BorrowedBeat$Diary" 28 "BorrowedBeat$Diary" "hasImage" "Z" ∈ uw := muw mT1 151 rfl rfl
set_option maxRecDepth 100000 in
theorem m236 : Cond.fieldLink "BorrowedBeat" 225 "BorrowedBeat$Diary" "hasImage" "Z" ∈ uw := muw mT1 152 rfl rfl
set_option maxRecDepth 100000 in
theorem m237 : Cond.fieldLink "BorrowedBeat$Diary" 44 "BorrowedBeat$Diary" "imageDay" "I" ∈ uw := muw mT1 153 rfl rfl
set_option maxRecDepth 100000 in
theorem m238 : Cond.fieldLink "BorrowedBeat$Diary" 25 "BorrowedBeat$Diary" "next" "I" ∈ uw := muw mT1 154 rfl rfl
set_option maxRecDepth 100000 in
theorem m239 : Cond.fieldLink "BorrowedBeat$Diary" 9 "BorrowedBeat$Diary" "imageBeats" "[I" ∈ uw := muw mT1 155 rfl rfl
set_option maxRecDepth 100000 in
theorem m240 : Cond.fieldLink "BorrowedBeat$Diary" 15 "BorrowedBeat$Diary" "rows" "[I" ∈ uw := muw mT1 156 rfl rfl
set_option maxRecDepth 100000 in
theorem m256 : Cond.classLink "BorrowedBeat" 56 "BorrowedBeat$Score" ∈ uw := muw mT1 172 rfl rfl
set_option maxRecDepth 100000 in
theorem m257 : Cond.instantiable "BorrowedBeat$Score" 8 ∈ uw := muw mT1 173 rfl rfl
set_option maxRecDepth 100000 in
theorem mn258 : Cond.methodLinkNest "BorrowedBeat" 58 ⟨"BorrowedBeat$Score", "<init>", "()V"⟩ "BorrowedBeat" ∈ nw := mnw mT1 174 rfl rfl
set_option maxRecDepth 100000 in
theorem m259 : Cond.instanceMethod ⟨"BorrowedBeat$Score", "<init>", "()V"⟩ ∈ uw := muw mT1 175 rfl rfl
set_option maxRecDepth 100000 in
theorem m260 : Cond.code ⟨"BorrowedBeat$Score", "<init>", "()V"⟩ prog_8_method_1_code 1 none ∈ uw := muw mT1 176 rfl rfl
set_option maxRecDepth 100000 in
theorem m261 : Cond.methodLink "BorrowedBeat$Score" 3 ⟨"java/lang/Object", "<init>", "()V"⟩ ∈ uw := muw mT1 177 rfl rfl
set_option maxRecDepth 100000 in
theorem m262 : Cond.fieldLink "BorrowedBeat$Score" 33 "BorrowedBeat$Score" "players" "I" ∈ uw := muw mT1 178 rfl rfl
set_option maxRecDepth 100000 in
theorem m263 : Cond.fieldLink "BorrowedBeat$WeekSearch" 36 "BorrowedBeat$Score" "players" "I" ∈ uw := muw mT1 179 rfl rfl
set_option maxRecDepth 100000 in
theorem m264 : Cond.fieldLink "BorrowedBeat$Play" 46 "BorrowedBeat$Score" "players" "I" ∈ uw := muw mT1 180 rfl rfl
set_option maxRecDepth 100000 in
theorem m265 : Cond.fieldLink "BorrowedBeat$MarkSearch" 56 "BorrowedBeat$Score" "players" "I" ∈ uw := muw mT1 181 rfl rfl
set_option maxRecDepth 100000 in
theorem m266 : Cond.fieldLink "BorrowedBeat$Score" 9 "BorrowedBeat$Score" "bars" "I" ∈ uw := muw mT1 182 rfl rfl
set_option maxRecDepth 100000 in
theorem m267 : Cond.fieldLink "BorrowedBeat$MarkSearch" 35 "BorrowedBeat$Score" "bars" "I" ∈ uw := muw mT1 183 rfl rfl
set_option maxRecDepth 100000 in
theorem m268 : Cond.fieldLink "BorrowedBeat$Play" 52 "BorrowedBeat$Score" "bars" "I" ∈ uw := muw mT1 184 rfl rfl
set_option maxRecDepth 100000 in
theorem m269 : Cond.fieldLink "BorrowedBeat" 182 "BorrowedBeat$Score" "bars" "I" ∈ uw := muw mT1 185 rfl rfl
set_option maxRecDepth 100000 in
theorem m270 : Cond.fieldLink "BorrowedBeat$Score" 52 "BorrowedBeat$Score" "echo" "I" ∈ uw := muw mT1 186 rfl rfl
set_option maxRecDepth 100000 in
theorem m271 : Cond.fieldLink "BorrowedBeat$Play" 58 "BorrowedBeat$Score" "echo" "I" ∈ uw := muw mT1 187 rfl rfl
set_option maxRecDepth 100000 in
theorem m272 : Cond.fieldLink "BorrowedBeat" 185 "BorrowedBeat$Score" "echo" "I" ∈ uw := muw mT1 188 rfl rfl
set_option maxRecDepth 100000 in
theorem m273 : Cond.fieldLink "BorrowedBeat$Score" 34 "BorrowedBeat$Score" "marked" "I" ∈ uw := muw mT1 189 rfl rfl
set_option maxRecDepth 100000 in
theorem m274 : Cond.fieldLink "BorrowedBeat$Play" 53 "BorrowedBeat$Score" "marked" "I" ∈ uw := muw mT1 190 rfl rfl
set_option maxRecDepth 100000 in
theorem m275 : Cond.fieldLink "BorrowedBeat" 196 "BorrowedBeat$Score" "marked" "I" ∈ uw := muw mT1 191 rfl rfl
set_option maxRecDepth 100000 in
theorem m276 : Cond.fieldLink "BorrowedBeat$Score" 15 "BorrowedBeat$Score" "beats" "[I" ∈ uw := muw mT1 192 rfl rfl
set_option maxRecDepth 100000 in
theorem m277 : Cond.fieldLink "BorrowedBeat$WeekSearch" 40 "BorrowedBeat$Score" "beats" "[I" ∈ uw := muw mT1 193 rfl rfl
set_option maxRecDepth 100000 in
theorem m278 : Cond.fieldLink "BorrowedBeat$Play" 57 "BorrowedBeat$Score" "beats" "[I" ∈ uw := muw mT1 194 rfl rfl
set_option maxRecDepth 100000 in
theorem m279 : Cond.fieldLink "BorrowedBeat" 158 "BorrowedBeat$Score" "beats" "[I" ∈ uw := muw mT1 195 rfl rfl
set_option maxRecDepth 100000 in
theorem m280 : Cond.fieldLink "BorrowedBeat$Score" 19 "BorrowedBeat$Score" "follows" "[I" ∈ uw := muw mT1 196 rfl rfl
set_option maxRecDepth 100000 in
theorem m281 : Cond.fieldLink "BorrowedBeat$Play" 61 "BorrowedBeat$Score" "follows" "[I" ∈ uw := muw mT1 197 rfl rfl
set_option maxRecDepth 100000 in
theorem m282 : Cond.fieldLink "BorrowedBeat" 168 "BorrowedBeat$Score" "follows" "[I" ∈ uw := muw mT1 198 rfl rfl
set_option maxRecDepth 100000 in
theorem m283 : Cond.fieldLink "BorrowedBeat$Score" 22 "BorrowedBeat$Score" "hows" "[I" ∈ uw := muw mT1 199 rfl rfl
set_option maxRecDepth 100000 in
theorem m284 : Cond.fieldLink "BorrowedBeat$Play" 64 "BorrowedBeat$Score" "hows" "[I" ∈ uw := muw mT1 200 rfl rfl
set_option maxRecDepth 100000 in
theorem m285 : Cond.fieldLink "BorrowedBeat" 171 "BorrowedBeat$Score" "hows" "[I" ∈ uw := muw mT1 201 rfl rfl
set_option maxRecDepth 100000 in
theorem m286 : Cond.fieldLink "BorrowedBeat$Score" 25 "BorrowedBeat$Score" "lates" "[I" ∈ uw := muw mT1 202 rfl rfl
set_option maxRecDepth 100000 in
theorem m287 : Cond.fieldLink "BorrowedBeat$MarkSearch" 65 "BorrowedBeat$Score" "lates" "[I" ∈ uw := muw mT1 203 rfl rfl
set_option maxRecDepth 100000 in
theorem m288 : Cond.fieldLink "BorrowedBeat$Play" 72 "BorrowedBeat$Score" "lates" "[I" ∈ uw := muw mT1 204 rfl rfl
set_option maxRecDepth 100000 in
theorem m289 : Cond.fieldLink "BorrowedBeat" 174 "BorrowedBeat$Score" "lates" "[I" ∈ uw := muw mT1 205 rfl rfl
set_option maxRecDepth 100000 in
theorem m307 : Cond.classLink "BorrowedBeat" 66 "BorrowedBeat$Play" ∈ uw := muw mT1 223 rfl rfl
set_option maxRecDepth 100000 in
theorem m308 : Cond.instantiable "BorrowedBeat$Play" 9 ∈ uw := muw mT1 224 rfl rfl
set_option maxRecDepth 100000 in
theorem mn309 : Cond.methodLinkNest "BorrowedBeat" 68 ⟨"BorrowedBeat$Play", "<init>", "()V"⟩ "BorrowedBeat" ∈ nw := mnw mT1 225 rfl rfl
set_option maxRecDepth 100000 in
theorem m310 : Cond.instanceMethod ⟨"BorrowedBeat$Play", "<init>", "()V"⟩ ∈ uw := muw mT1 226 rfl rfl
set_option maxRecDepth 100000 in
theorem m311 : Cond.code ⟨"BorrowedBeat$Play", "<init>", "()V"⟩ prog_6_method_1_code 1 none ∈ uw := muw mT1 227 rfl rfl
set_option maxRecDepth 100000 in
theorem m312 : Cond.methodLink "BorrowedBeat$Play" 3 ⟨"java/lang/Object", "<init>", "()V"⟩ ∈ uw := muw mT1 228 rfl rfl
set_option maxRecDepth 100000 in
theorem m313 : Cond.fieldLink "BorrowedBeat$Play" 11 "BorrowedBeat$Play" "beats" "[I" ∈ uw := muw mT1 229 rfl rfl
set_option maxRecDepth 100000 in
theorem m314 : Cond.fieldLink "BorrowedBeat$Play" 15 "BorrowedBeat$Play" "times" "[I" ∈ uw := muw mT1 230 rfl rfl
set_option maxRecDepth 100000 in
theorem m315 : Cond.fieldLink "BorrowedBeat$Play" 18 "BorrowedBeat$Play" "waited" "[I" ∈ uw := muw mT1 231 rfl rfl
set_option maxRecDepth 100000 in
theorem m316 : Cond.fieldLink "BorrowedBeat$Play" 21 "BorrowedBeat$Play" "spreads" "[I" ∈ uw := muw mT1 232 rfl rfl
set_option maxRecDepth 100000 in
theorem m317 : Cond.fieldLink "BorrowedBeat" 249 "BorrowedBeat$Play" "spreads" "[I" ∈ uw := muw mT1 233 rfl rfl
set_option maxRecDepth 100000 in
theorem m318 : Cond.fieldLink "BorrowedBeat$Play" 119 "BorrowedBeat$Play" "settledFrom" "I" ∈ uw := muw mT1 234 rfl rfl
set_option maxRecDepth 100000 in
theorem m319 : Cond.fieldLink "BorrowedBeat" 265 "BorrowedBeat$Play" "settledFrom" "I" ∈ uw := muw mT1 235 rfl rfl
set_option maxRecDepth 100000 in
theorem m320 : Cond.fieldLink "BorrowedBeat$Play" 122 "BorrowedBeat$Play" "settledLength" "I" ∈ uw := muw mT1 236 rfl rfl
set_option maxRecDepth 100000 in
theorem m321 : Cond.fieldLink "BorrowedBeat" 268 "BorrowedBeat$Play" "settledLength" "I" ∈ uw := muw mT1 237 rfl rfl
set_option maxRecDepth 100000 in
theorem m322 : Cond.fieldLink "BorrowedBeat$Play" 51 "BorrowedBeat$Play" "players" "I" ∈ uw := muw mT1 238 rfl rfl
set_option maxRecDepth 100000 in
theorem m323 : Cond.fieldLink "BorrowedBeat$Play" 28 "BorrowedBeat$Play" "bars" "I" ∈ uw := muw mT1 239 rfl rfl
set_option maxRecDepth 100000 in
theorem m324 : Cond.fieldLink "BorrowedBeat$Play" 56 "BorrowedBeat$Play" "marked" "I" ∈ uw := muw mT2 0 rfl rfl
set_option maxRecDepth 100000 in
theorem m344 : Cond.classLink "BorrowedBeat" 73 "BorrowedBeat$MarkSearch" ∈ uw := muw mT2 20 rfl rfl
set_option maxRecDepth 100000 in
theorem m345 : Cond.instantiable "BorrowedBeat$MarkSearch" 5 ∈ uw := muw mT2 21 rfl rfl
set_option maxRecDepth 100000 in
theorem mn346 : Cond.methodLinkNest "BorrowedBeat" 75 ⟨"BorrowedBeat$MarkSearch", "<init>", "()V"⟩ "BorrowedBeat" ∈ nw := mnw mT2 22 rfl rfl
set_option maxRecDepth 100000 in
theorem m347 : Cond.instanceMethod ⟨"BorrowedBeat$MarkSearch", "<init>", "()V"⟩ ∈ uw := muw mT2 23 rfl rfl
set_option maxRecDepth 100000 in
theorem m348 : Cond.code ⟨"BorrowedBeat$MarkSearch", "<init>", "()V"⟩ prog_5_method_1_code 1 none ∈ uw := muw mT2 24 rfl rfl
set_option maxRecDepth 100000 in
theorem m349 : Cond.methodLink "BorrowedBeat$MarkSearch" 3 ⟨"java/lang/Object", "<init>", "()V"⟩ ∈ uw := muw mT2 25 rfl rfl
set_option maxRecDepth 100000 in
theorem m350 : Cond.fieldLink "BorrowedBeat$MarkSearch" 28 "BorrowedBeat$MarkSearch" "fewest" "I" ∈ uw := muw mT2 26 rfl rfl
set_option maxRecDepth 100000 in
theorem m351 : Cond.fieldLink "BorrowedBeat" 304 "BorrowedBeat$MarkSearch" "fewest" "I" ∈ uw := muw mT2 27 rfl rfl
set_option maxRecDepth 100000 in
theorem m352 : Cond.fieldLink "BorrowedBeat$MarkSearch" 32 "BorrowedBeat$MarkSearch" "bits" "I" ∈ uw := muw mT2 28 rfl rfl
set_option maxRecDepth 100000 in
theorem m353 : Cond.fieldLink "BorrowedBeat" 307 "BorrowedBeat$MarkSearch" "bits" "I" ∈ uw := muw mT2 29 rfl rfl
set_option maxRecDepth 100000 in
theorem m354 : Cond.fieldLink "BorrowedBeat$MarkSearch" 9 "BorrowedBeat$MarkSearch" "counts" "[I" ∈ uw := muw mT2 30 rfl rfl
set_option maxRecDepth 100000 in
theorem m355 : Cond.fieldLink "BorrowedBeat$MarkSearch" 15 "BorrowedBeat$MarkSearch" "masks" "[I" ∈ uw := muw mT2 31 rfl rfl
set_option maxRecDepth 100000 in
theorem m356 : Cond.fieldLink "BorrowedBeat$MarkSearch" 18 "BorrowedBeat$MarkSearch" "sums" "[I" ∈ uw := muw mT2 32 rfl rfl
set_option maxRecDepth 100000 in
theorem m368 : Cond.classLink "BorrowedBeat" 80 "BorrowedBeat$WeekSearch" ∈ uw := muw mT2 44 rfl rfl
set_option maxRecDepth 100000 in
theorem m369 : Cond.instantiable "BorrowedBeat$WeekSearch" 7 ∈ uw := muw mT2 45 rfl rfl
set_option maxRecDepth 100000 in
theorem m370 : Cond.methodLink "BorrowedBeat" 82 ⟨"BorrowedBeat$WeekSearch", "<init>", "(LBorrowedBeat$Play;LBorrowedBeat$Score;)V"⟩ ∈ uw := muw mT2 46 rfl rfl
set_option maxRecDepth 100000 in
theorem m371 : Cond.instanceMethod ⟨"BorrowedBeat$WeekSearch", "<init>", "(LBorrowedBeat$Play;LBorrowedBeat$Score;)V"⟩ ∈ uw := muw mT2 47 rfl rfl
set_option maxRecDepth 100000 in
theorem m372 : Cond.code ⟨"BorrowedBeat$WeekSearch", "<init>", "(LBorrowedBeat$Play;LBorrowedBeat$Score;)V"⟩ prog_12_method_1_code 3 none ∈ uw := muw mT2 48 rfl rfl
set_option maxRecDepth 100000 in
theorem m373 : Cond.methodLink "BorrowedBeat$WeekSearch" 3 ⟨"java/lang/Object", "<init>", "()V"⟩ ∈ uw := muw mT2 49 rfl rfl
set_option maxRecDepth 100000 in
theorem m374 : Cond.fieldLink "BorrowedBeat$WeekSearch" 58 "BorrowedBeat$WeekSearch" "known" "Z" ∈ uw := muw mT2 50 rfl rfl
set_option maxRecDepth 100000 in
theorem m375 : Cond.fieldLink "BorrowedBeat" 143 "BorrowedBeat$WeekSearch" "known" "Z" ∈ uw := muw mT2 51 rfl rfl
set_option maxRecDepth 100000 in
theorem m376 : Cond.fieldLink "BorrowedBeat$WeekSearch" 48 "BorrowedBeat$WeekSearch" "row" "I" ∈ uw := muw mT2 52 rfl rfl
set_option maxRecDepth 100000 in
theorem m377 : Cond.fieldLink "BorrowedBeat" 316 "BorrowedBeat$WeekSearch" "row" "I" ∈ uw := muw mT2 53 rfl rfl
set_option maxRecDepth 100000 in
theorem m378 : Cond.fieldLink "BorrowedBeat$WeekSearch" 51 "BorrowedBeat$WeekSearch" "least" "I" ∈ uw := muw mT2 54 rfl rfl
set_option maxRecDepth 100000 in
theorem m379 : Cond.fieldLink "BorrowedBeat" 319 "BorrowedBeat$WeekSearch" "least" "I" ∈ uw := muw mT2 55 rfl rfl
set_option maxRecDepth 100000 in
theorem m380 : Cond.fieldLink "BorrowedBeat$WeekSearch" 18 "BorrowedBeat$WeekSearch" "play" "LBorrowedBeat$Play;" ∈ uw := muw mT2 56 rfl rfl
set_option maxRecDepth 100000 in
theorem m381 : Cond.fieldLink "BorrowedBeat$WeekSearch" 22 "BorrowedBeat$WeekSearch" "trial" "LBorrowedBeat$Score;" ∈ uw := muw mT2 57 rfl rfl
set_option maxRecDepth 100000 in
theorem m382 : Cond.fieldLink "BorrowedBeat$WeekSearch" 9 "BorrowedBeat$WeekSearch" "wets" "[I" ∈ uw := muw mT2 58 rfl rfl
set_option maxRecDepth 100000 in
theorem m383 : Cond.fieldLink "BorrowedBeat" 310 "BorrowedBeat$WeekSearch" "wets" "[I" ∈ uw := muw mT2 59 rfl rfl
set_option maxRecDepth 100000 in
theorem m384 : Cond.fieldLink "BorrowedBeat$WeekSearch" 15 "BorrowedBeat$WeekSearch" "behind" "[I" ∈ uw := muw mT2 60 rfl rfl
set_option maxRecDepth 100000 in
theorem m400 : Cond.fieldLink "BorrowedBeat" 10 "BorrowedBeat" "tape" "LBorrowedBeat$Tape;" ∈ uw := muw mT2 76 rfl rfl
set_option maxRecDepth 100000 in
theorem m401 : Cond.fieldLink "BorrowedBeat" 21 "BorrowedBeat" "townReader" "LBorrowedBeat$TownReader;" ∈ uw := muw mT2 77 rfl rfl
set_option maxRecDepth 100000 in
theorem m402 : Cond.fieldLink "BorrowedBeat" 28 "BorrowedBeat" "lawReader" "LBorrowedBeat$LawReader;" ∈ uw := muw mT2 78 rfl rfl
set_option maxRecDepth 100000 in
theorem m403 : Cond.fieldLink "BorrowedBeat" 35 "BorrowedBeat" "town" "LBorrowedBeat$Town;" ∈ uw := muw mT2 79 rfl rfl
set_option maxRecDepth 100000 in
theorem m404 : Cond.fieldLink "BorrowedBeat" 41 "BorrowedBeat" "laws" "[LBorrowedBeat$Law;" ∈ uw := muw mT2 80 rfl rfl
set_option maxRecDepth 100000 in
theorem m405 : Cond.fieldLink "BorrowedBeat" 48 "BorrowedBeat" "diary" "LBorrowedBeat$Diary;" ∈ uw := muw mT2 81 rfl rfl
set_option maxRecDepth 100000 in
theorem m406 : Cond.fieldLink "BorrowedBeat" 52 "BorrowedBeat" "told" "[I" ∈ uw := muw mT2 82 rfl rfl
set_option maxRecDepth 100000 in
theorem m407 : Cond.fieldLink "BorrowedBeat" 59 "BorrowedBeat" "score" "LBorrowedBeat$Score;" ∈ uw := muw mT2 83 rfl rfl
set_option maxRecDepth 100000 in
theorem m408 : Cond.fieldLink "BorrowedBeat" 63 "BorrowedBeat" "trial" "LBorrowedBeat$Score;" ∈ uw := muw mT2 84 rfl rfl
set_option maxRecDepth 100000 in
theorem m409 : Cond.fieldLink "BorrowedBeat" 69 "BorrowedBeat" "play" "LBorrowedBeat$Play;" ∈ uw := muw mT2 85 rfl rfl
set_option maxRecDepth 100000 in
theorem m410 : Cond.fieldLink "BorrowedBeat" 76 "BorrowedBeat" "markSearch" "LBorrowedBeat$MarkSearch;" ∈ uw := muw mT2 86 rfl rfl
set_option maxRecDepth 100000 in
theorem m411 : Cond.fieldLink "BorrowedBeat" 85 "BorrowedBeat" "weekSearch" "LBorrowedBeat$WeekSearch;" ∈ uw := muw mT2 87 rfl rfl
set_option maxRecDepth 100000 in
theorem m412 : Cond.fieldLink "BorrowedBeat" 89 "BorrowedBeat" "limit" "I" ∈ uw := muw mT2 88 rfl rfl
set_option maxRecDepth 100000 in
theorem m413 : Cond.fieldLink "BorrowedBeat" 118 "BorrowedBeat" "lawCount" "I" ∈ uw := muw mT2 89 rfl rfl
set_option maxRecDepth 100000 in
theorem m414 : Cond.fieldLink "BorrowedBeat" 93 "BorrowedBeat" "holding" "I" ∈ uw := muw mT2 90 rfl rfl
set_option maxRecDepth 100000 in
theorem m415 : Cond.fieldLink "BorrowedBeat" 137 "BorrowedBeat" "toldCount" "I" ∈ uw := muw mT2 91 rfl rfl
set_option maxRecDepth 100000 in
theorem m449 : Cond.methodLink "BorrowedBeatLaw" 19 ⟨"BorrowedBeat", "feed", "(IIIII)I"⟩ ∈ uw := muw mT2 125 rfl rfl
set_option maxRecDepth 100000 in
theorem m450 : Cond.instanceMethod ⟨"BorrowedBeat", "feed", "(IIIII)I"⟩ ∈ uw := muw mT2 126 rfl rfl
set_option maxRecDepth 100000 in
theorem m451 : Cond.selects "BorrowedBeat" ⟨"BorrowedBeat", "feed", "(IIIII)I"⟩ ⟨"BorrowedBeat", "feed", "(IIIII)I"⟩ ∈ uw := muw mT2 127 rfl rfl
set_option maxRecDepth 100000 in
theorem m452 : Cond.code ⟨"BorrowedBeat", "feed", "(IIIII)I"⟩ prog_1_method_2_code 7 (Option.some ClassFile.FieldType.int) ∈ uw := muw mT2 128 rfl rfl
set_option maxRecDepth 100000 in
theorem m453 : Cond.methodLink "BorrowedBeat" 96 ⟨"BorrowedBeat$Tape", "bytesIn", "(I)I"⟩ ∈ uw := muw mT2 129 rfl rfl
set_option maxRecDepth 100000 in
theorem m454 : Cond.static ⟨"BorrowedBeat$Tape", "bytesIn", "(I)I"⟩ ∈ uw := muw mT2 130 rfl rfl
set_option maxRecDepth 100000 in
theorem m455 : Cond.code ⟨"BorrowedBeat$Tape", "bytesIn", "(I)I"⟩ prog_9_method_2_code 3 (Option.some ClassFile.FieldType.int) ∈ uw := muw mT2 131 rfl rfl
set_option maxRecDepth 100000 in
theorem m456 : Cond.methodLink "BorrowedBeat" 103 ⟨"BorrowedBeat$Tape", "push", "(I)V"⟩ ∈ uw := muw mT2 132 rfl rfl
set_option maxRecDepth 100000 in
theorem m457 : Cond.instanceMethod ⟨"BorrowedBeat$Tape", "push", "(I)V"⟩ ∈ uw := muw mT2 133 rfl rfl
set_option maxRecDepth 100000 in
theorem m458 : Cond.selects "BorrowedBeat$Tape" ⟨"BorrowedBeat$Tape", "push", "(I)V"⟩ ⟨"BorrowedBeat$Tape", "push", "(I)V"⟩ ∈ uw := muw mT2 134 rfl rfl
set_option maxRecDepth 100000 in
theorem m459 : Cond.code ⟨"BorrowedBeat$Tape", "push", "(I)V"⟩ prog_9_method_3_code 4 none ∈ uw := muw mT2 135 rfl rfl
set_option maxRecDepth 100000 in
theorem m460 : Cond.methodLink "BorrowedBeatLaw" 24 ⟨"BorrowedBeat", "end", "(I)Z"⟩ ∈ uw := muw mT2 136 rfl rfl
set_option maxRecDepth 100000 in
theorem m461 : Cond.instanceMethod ⟨"BorrowedBeat", "end", "(I)Z"⟩ ∈ uw := muw mT2 137 rfl rfl
set_option maxRecDepth 100000 in
theorem m462 : Cond.selects "BorrowedBeat" ⟨"BorrowedBeat", "end", "(I)Z"⟩ ⟨"BorrowedBeat", "end", "(I)Z"⟩ ∈ uw := muw mT2 138 rfl rfl
set_option maxRecDepth 100000 in
theorem m463 : Cond.code ⟨"BorrowedBeat", "end", "(I)Z"⟩ prog_1_method_3_code 2 (Option.some ClassFile.FieldType.boolean) ∈ uw := muw mT2 139 rfl rfl
set_option maxRecDepth 100000 in
theorem m464 : Cond.methodLink "BorrowedBeatLaw" 29 ⟨"BorrowedBeat", "fault", "(I)I"⟩ ∈ uw := muw mT2 140 rfl rfl
set_option maxRecDepth 100000 in
theorem m465 : Cond.instanceMethod ⟨"BorrowedBeat", "fault", "(I)I"⟩ ∈ uw := muw mT2 141 rfl rfl
set_option maxRecDepth 100000 in
theorem m466 : Cond.selects "BorrowedBeat" ⟨"BorrowedBeat", "fault", "(I)I"⟩ ⟨"BorrowedBeat", "fault", "(I)I"⟩ ∈ uw := muw mT2 142 rfl rfl
set_option maxRecDepth 100000 in
theorem m467 : Cond.code ⟨"BorrowedBeat", "fault", "(I)I"⟩ prog_1_method_4_code 2 (Option.some ClassFile.FieldType.int) ∈ uw := muw mT2 143 rfl rfl
set_option maxRecDepth 100000 in
theorem m468 : Cond.methodLink "BorrowedBeat" 107 ⟨"BorrowedBeat$TownReader", "read", "()I"⟩ ∈ uw := muw mT2 144 rfl rfl
set_option maxRecDepth 100000 in
theorem m469 : Cond.sameMethod "BorrowedBeat$TownReader" "BorrowedBeat$Reader" "read" "()I" ∈ uw := muw mT2 145 rfl rfl
set_option maxRecDepth 100000 in
theorem m471 : Cond.selects "BorrowedBeat$TownReader" ⟨"BorrowedBeat$TownReader", "read", "()I"⟩ ⟨"BorrowedBeat$Reader", "read", "()I"⟩ ∈ uw := muw mT2 147 rfl rfl
set_option maxRecDepth 100000 in
theorem m472 : Cond.instanceMethod ⟨"BorrowedBeat$Reader", "read", "()I"⟩ ∈ uw := muw mT2 148 rfl rfl
set_option maxRecDepth 100000 in
theorem m473 : Cond.code ⟨"BorrowedBeat$Reader", "read", "()I"⟩ prog_7_method_5_code 3 (Option.some ClassFile.FieldType.int) ∈ uw := muw mT2 149 rfl rfl
set_option maxRecDepth 100000 in
theorem m474 : Cond.methodLink "BorrowedBeat$Reader" 22 ⟨"BorrowedBeat$Reader", "clear", "()V"⟩ ∈ uw := muw mT2 150 rfl rfl
set_option maxRecDepth 100000 in
theorem mn475 : Cond.declares ⟨"BorrowedBeat$Reader", "clear", "()V"⟩ ∈ nw := mnw mT2 151 rfl rfl
set_option maxRecDepth 100000 in
theorem m476 : Cond.sameMethod "BorrowedBeat$Reader" "BorrowedBeat$Reader" "clear" "()V" ∈ uw := muw mT2 152 rfl rfl
set_option maxRecDepth 100000 in
theorem m477 : Cond.selects "BorrowedBeat$LawReader" ⟨"BorrowedBeat$Reader", "clear", "()V"⟩ ⟨"BorrowedBeat$LawReader", "clear", "()V"⟩ ∈ uw := muw mT2 153 rfl rfl
set_option maxRecDepth 100000 in
theorem m478 : Cond.instanceMethod ⟨"BorrowedBeat$LawReader", "clear", "()V"⟩ ∈ uw := muw mT2 154 rfl rfl
set_option maxRecDepth 100000 in
theorem m479 : Cond.code ⟨"BorrowedBeat$LawReader", "clear", "()V"⟩ prog_4_method_2_code 1 none ∈ uw := muw mT2 155 rfl rfl
set_option maxRecDepth 100000 in
theorem m480 : Cond.selects "BorrowedBeat$TownReader" ⟨"BorrowedBeat$Reader", "clear", "()V"⟩ ⟨"BorrowedBeat$TownReader", "clear", "()V"⟩ ∈ uw := muw mT2 156 rfl rfl
set_option maxRecDepth 100000 in
theorem m481 : Cond.instanceMethod ⟨"BorrowedBeat$TownReader", "clear", "()V"⟩ ∈ uw := muw mT2 157 rfl rfl
set_option maxRecDepth 100000 in
theorem m482 : Cond.code ⟨"BorrowedBeat$TownReader", "clear", "()V"⟩ prog_11_method_2_code 1 none ∈ uw := muw mT2 158 rfl rfl
set_option maxRecDepth 100000 in
theorem m483 : Cond.methodLink "BorrowedBeat$TownReader" 20 ⟨"BorrowedBeat$Town", "clear", "()V"⟩ ∈ uw := muw mT2 159 rfl rfl
set_option maxRecDepth 100000 in
theorem m484 : Cond.instanceMethod ⟨"BorrowedBeat$Town", "clear", "()V"⟩ ∈ uw := muw mT2 160 rfl rfl
set_option maxRecDepth 100000 in
theorem m485 : Cond.selects "BorrowedBeat$Town" ⟨"BorrowedBeat$Town", "clear", "()V"⟩ ⟨"BorrowedBeat$Town", "clear", "()V"⟩ ∈ uw := muw mT2 161 rfl rfl
set_option maxRecDepth 100000 in
theorem m486 : Cond.code ⟨"BorrowedBeat$Town", "clear", "()V"⟩ prog_10_method_2_code 1 none ∈ uw := muw mT2 162 rfl rfl
set_option maxRecDepth 100000 in
theorem m487 : Cond.methodLink "BorrowedBeat$Reader" 27 ⟨"BorrowedBeat$Reader", "readClause", "()Z"⟩ ∈ uw := muw mT2 163 rfl rfl
set_option maxRecDepth 100000 in
theorem mn488 : Cond.declares ⟨"BorrowedBeat$Reader", "readClause", "()Z"⟩ ∈ nw := mnw mT2 164 rfl rfl
set_option maxRecDepth 100000 in
theorem m489 : Cond.sameMethod "BorrowedBeat$Reader" "BorrowedBeat$Reader" "readClause" "()Z" ∈ uw := muw mT2 165 rfl rfl
set_option maxRecDepth 100000 in
theorem m490 : Cond.selects "BorrowedBeat$LawReader" ⟨"BorrowedBeat$Reader", "readClause", "()Z"⟩ ⟨"BorrowedBeat$LawReader", "readClause", "()Z"⟩ ∈ uw := muw mT2 166 rfl rfl
set_option maxRecDepth 100000 in
theorem m491 : Cond.instanceMethod ⟨"BorrowedBeat$LawReader", "readClause", "()Z"⟩ ∈ uw := muw mT2 167 rfl rfl
set_option maxRecDepth 100000 in
theorem m492 : Cond.code ⟨"BorrowedBeat$LawReader", "readClause", "()Z"⟩ prog_4_method_6_code 2 (Option.some ClassFile.FieldType.boolean) ∈ uw := muw mT2 168 rfl rfl
set_option maxRecDepth 100000 in
theorem m493 : Cond.methodLink "BorrowedBeat$LawReader" 32 ⟨"BorrowedBeat$LawReader", "take", "(I)Z"⟩ ∈ uw := muw mT2 169 rfl rfl
set_option maxRecDepth 100000 in
theorem m494 : Cond.sameMethod "BorrowedBeat$LawReader" "BorrowedBeat$Reader" "take" "(I)Z" ∈ uw := muw mT2 170 rfl rfl
set_option maxRecDepth 100000 in
theorem m496 : Cond.selects "BorrowedBeat$LawReader" ⟨"BorrowedBeat$LawReader", "take", "(I)Z"⟩ ⟨"BorrowedBeat$Reader", "take", "(I)Z"⟩ ∈ uw := muw mT2 172 rfl rfl
set_option maxRecDepth 100000 in
theorem m497 : Cond.instanceMethod ⟨"BorrowedBeat$Reader", "take", "(I)Z"⟩ ∈ uw := muw mT2 173 rfl rfl
set_option maxRecDepth 100000 in
theorem m498 : Cond.code ⟨"BorrowedBeat$Reader", "take", "(I)Z"⟩ prog_7_method_8_code 2 (Option.some ClassFile.FieldType.boolean) ∈ uw := muw mT2 174 rfl rfl
set_option maxRecDepth 100000 in
theorem m499 : Cond.methodLink "BorrowedBeat$Reader" 40 ⟨"BorrowedBeat$Reader", "peek", "()I"⟩ ∈ uw := muw mT2 175 rfl rfl
set_option maxRecDepth 100000 in
theorem m500 : Cond.instanceMethod ⟨"BorrowedBeat$Reader", "peek", "()I"⟩ ∈ uw := muw mT2 176 rfl rfl
set_option maxRecDepth 100000 in
theorem m501 : Cond.sameMethod "BorrowedBeat$Reader" "BorrowedBeat$Reader" "peek" "()I" ∈ uw := muw mT2 177 rfl rfl
set_option maxRecDepth 100000 in
theorem m502 : Cond.selects "BorrowedBeat$LawReader" ⟨"BorrowedBeat$Reader", "peek", "()I"⟩ ⟨"BorrowedBeat$Reader", "peek", "()I"⟩ ∈ uw := muw mT2 178 rfl rfl
set_option maxRecDepth 100000 in
theorem m503 : Cond.selects "BorrowedBeat$TownReader" ⟨"BorrowedBeat$Reader", "peek", "()I"⟩ ⟨"BorrowedBeat$Reader", "peek", "()I"⟩ ∈ uw := muw mT2 179 rfl rfl
set_option maxRecDepth 100000 in
theorem m504 : Cond.code ⟨"BorrowedBeat$Reader", "peek", "()I"⟩ prog_7_method_7_code 1 (Option.some ClassFile.FieldType.int) ∈ uw := muw mT2 180 rfl rfl
set_option maxRecDepth 100000 in
theorem m505 : Cond.methodLink "BorrowedBeat$LawReader" 36 ⟨"BorrowedBeat$LawReader", "fail", "()Z"⟩ ∈ uw := muw mT2 181 rfl rfl
set_option maxRecDepth 100000 in
theorem m506 : Cond.sameMethod "BorrowedBeat$LawReader" "BorrowedBeat$Reader" "fail" "()Z" ∈ uw := muw mT2 182 rfl rfl
set_option maxRecDepth 100000 in
theorem m508 : Cond.selects "BorrowedBeat$LawReader" ⟨"BorrowedBeat$LawReader", "fail", "()Z"⟩ ⟨"BorrowedBeat$Reader", "fail", "()Z"⟩ ∈ uw := muw mT2 184 rfl rfl
set_option maxRecDepth 100000 in
theorem m509 : Cond.instanceMethod ⟨"BorrowedBeat$Reader", "fail", "()Z"⟩ ∈ uw := muw mT2 185 rfl rfl
set_option maxRecDepth 100000 in
theorem m510 : Cond.code ⟨"BorrowedBeat$Reader", "fail", "()Z"⟩ prog_7_method_9_code 1 (Option.some ClassFile.FieldType.boolean) ∈ uw := muw mT2 186 rfl rfl
set_option maxRecDepth 100000 in
theorem m511 : Cond.methodLink "BorrowedBeat$LawReader" 40 ⟨"BorrowedBeat$LawReader", "peek", "()I"⟩ ∈ uw := muw mT2 187 rfl rfl
set_option maxRecDepth 100000 in
theorem m512 : Cond.sameMethod "BorrowedBeat$LawReader" "BorrowedBeat$Reader" "peek" "()I" ∈ uw := muw mT2 188 rfl rfl
set_option maxRecDepth 100000 in
theorem m514 : Cond.selects "BorrowedBeat$LawReader" ⟨"BorrowedBeat$LawReader", "peek", "()I"⟩ ⟨"BorrowedBeat$Reader", "peek", "()I"⟩ ∈ uw := muw mT2 190 rfl rfl
set_option maxRecDepth 100000 in
theorem m515 : Cond.methodLink "BorrowedBeat$LawReader" 44 ⟨"BorrowedBeat$LawReader", "condition", "(I)Z"⟩ ∈ uw := muw mT2 191 rfl rfl
set_option maxRecDepth 100000 in
theorem m517 : Cond.instanceMethod ⟨"BorrowedBeat$LawReader", "condition", "(I)Z"⟩ ∈ uw := muw mT2 193 rfl rfl
set_option maxRecDepth 100000 in
theorem m518 : Cond.code ⟨"BorrowedBeat$LawReader", "condition", "(I)Z"⟩ prog_4_method_8_code 2 (Option.some ClassFile.FieldType.boolean) ∈ uw := muw mT2 194 rfl rfl
set_option maxRecDepth 100000 in
theorem m519 : Cond.methodLink "BorrowedBeat$LawReader" 65 ⟨"BorrowedBeat$LawReader", "unit", "(I)Z"⟩ ∈ uw := muw mT2 195 rfl rfl
set_option maxRecDepth 100000 in
theorem m521 : Cond.instanceMethod ⟨"BorrowedBeat$LawReader", "unit", "(I)Z"⟩ ∈ uw := muw mT2 197 rfl rfl
set_option maxRecDepth 100000 in
theorem m522 : Cond.code ⟨"BorrowedBeat$LawReader", "unit", "(I)Z"⟩ prog_4_method_10_code 3 (Option.some ClassFile.FieldType.boolean) ∈ uw := muw mT2 198 rfl rfl
set_option maxRecDepth 100000 in
theorem m523 : Cond.methodLink "BorrowedBeat$LawReader" 50 ⟨"BorrowedBeat$LawReader", "sum", "(I)Z"⟩ ∈ uw := muw mT2 199 rfl rfl
set_option maxRecDepth 100000 in
theorem m525 : Cond.instanceMethod ⟨"BorrowedBeat$LawReader", "sum", "(I)Z"⟩ ∈ uw := muw mT2 201 rfl rfl
set_option maxRecDepth 100000 in
theorem m526 : Cond.code ⟨"BorrowedBeat$LawReader", "sum", "(I)Z"⟩ prog_4_method_14_code 6 (Option.some ClassFile.FieldType.boolean) ∈ uw := muw mT2 202 rfl rfl
set_option maxRecDepth 100000 in
theorem m527 : Cond.methodLink "BorrowedBeat$LawReader" 74 ⟨"BorrowedBeat$LawReader", "atom", "(I)Z"⟩ ∈ uw := muw mT2 203 rfl rfl
set_option maxRecDepth 100000 in
theorem m529 : Cond.instanceMethod ⟨"BorrowedBeat$LawReader", "atom", "(I)Z"⟩ ∈ uw := muw mT2 205 rfl rfl
set_option maxRecDepth 100000 in
theorem m530 : Cond.code ⟨"BorrowedBeat$LawReader", "atom", "(I)Z"⟩ prog_4_method_15_code 4 (Option.some ClassFile.FieldType.boolean) ∈ uw := muw mT2 206 rfl rfl
set_option maxRecDepth 100000 in
theorem m531 : Cond.methodLink "BorrowedBeat$LawReader" 77 ⟨"BorrowedBeat$LawReader", "isDigit", "(I)Z"⟩ ∈ uw := muw mT2 207 rfl rfl
set_option maxRecDepth 100000 in
theorem m532 : Cond.sameMethod "BorrowedBeat$LawReader" "BorrowedBeat$Reader" "isDigit" "(I)Z" ∈ uw := muw mT2 208 rfl rfl
set_option maxRecDepth 100000 in
theorem m533 : Cond.static ⟨"BorrowedBeat$Reader", "isDigit", "(I)Z"⟩ ∈ uw := muw mT2 209 rfl rfl
set_option maxRecDepth 100000 in
theorem m534 : Cond.code ⟨"BorrowedBeat$Reader", "isDigit", "(I)Z"⟩ prog_7_method_11_code 1 (Option.some ClassFile.FieldType.boolean) ∈ uw := muw mT2 210 rfl rfl
set_option maxRecDepth 100000 in
theorem m535 : Cond.methodLink "BorrowedBeat$LawReader" 80 ⟨"BorrowedBeat$LawReader", "readNumber", "(III)I"⟩ ∈ uw := muw mT2 211 rfl rfl
set_option maxRecDepth 100000 in
theorem m536 : Cond.sameMethod "BorrowedBeat$LawReader" "BorrowedBeat$Reader" "readNumber" "(III)I" ∈ uw := muw mT2 212 rfl rfl
set_option maxRecDepth 100000 in
theorem m538 : Cond.selects "BorrowedBeat$LawReader" ⟨"BorrowedBeat$LawReader", "readNumber", "(III)I"⟩ ⟨"BorrowedBeat$Reader", "readNumber", "(III)I"⟩ ∈ uw := muw mT2 214 rfl rfl
set_option maxRecDepth 100000 in
theorem m539 : Cond.instanceMethod ⟨"BorrowedBeat$Reader", "readNumber", "(III)I"⟩ ∈ uw := muw mT2 215 rfl rfl
set_option maxRecDepth 100000 in
theorem m540 : Cond.code ⟨"BorrowedBeat$Reader", "readNumber", "(III)I"⟩ prog_7_method_10_code 6 (Option.some ClassFile.FieldType.int) ∈ uw := muw mT2 216 rfl rfl
set_option maxRecDepth 100000 in
theorem m541 : Cond.methodLink "BorrowedBeat$Reader" 55 ⟨"BorrowedBeat$Reader", "isDigit", "(I)Z"⟩ ∈ uw := muw mT2 217 rfl rfl
set_option maxRecDepth 100000 in
theorem m542 : Cond.methodLink "BorrowedBeat$Reader" 48 ⟨"BorrowedBeat$Reader", "fail", "()Z"⟩ ∈ uw := muw mT2 218 rfl rfl
set_option maxRecDepth 100000 in
theorem m543 : Cond.methodLink "BorrowedBeat$LawReader" 56 ⟨"BorrowedBeat$LawReader", "emit", "(I)Z"⟩ ∈ uw := muw mT2 219 rfl rfl
set_option maxRecDepth 100000 in
theorem m545 : Cond.instanceMethod ⟨"BorrowedBeat$LawReader", "emit", "(I)Z"⟩ ∈ uw := muw mT2 221 rfl rfl
set_option maxRecDepth 100000 in
theorem m546 : Cond.code ⟨"BorrowedBeat$LawReader", "emit", "(I)Z"⟩ prog_4_method_5_code 2 (Option.some ClassFile.FieldType.boolean) ∈ uw := muw mT2 222 rfl rfl
set_option maxRecDepth 100000 in
theorem m547 : Cond.methodLink "BorrowedBeat$LawReader" 59 ⟨"BorrowedBeat$LawReader", "comparison", "(I)Z"⟩ ∈ uw := muw mT2 223 rfl rfl
set_option maxRecDepth 100000 in
theorem m549 : Cond.instanceMethod ⟨"BorrowedBeat$LawReader", "comparison", "(I)Z"⟩ ∈ uw := muw mT2 225 rfl rfl
set_option maxRecDepth 100000 in
theorem m550 : Cond.code ⟨"BorrowedBeat$LawReader", "comparison", "(I)Z"⟩ prog_4_method_12_code 3 (Option.some ClassFile.FieldType.boolean) ∈ uw := muw mT2 226 rfl rfl
set_option maxRecDepth 100000 in
theorem m551 : Cond.methodLink "BorrowedBeat$LawReader" 53 ⟨"BorrowedBeat$LawReader", "isComparison", "(I)Z"⟩ ∈ uw := muw mT2 227 rfl rfl
set_option maxRecDepth 100000 in
theorem m552 : Cond.static ⟨"BorrowedBeat$LawReader", "isComparison", "(I)Z"⟩ ∈ uw := muw mT2 228 rfl rfl
set_option maxRecDepth 100000 in
theorem m553 : Cond.code ⟨"BorrowedBeat$LawReader", "isComparison", "(I)Z"⟩ prog_4_method_13_code 1 (Option.some ClassFile.FieldType.boolean) ∈ uw := muw mT2 229 rfl rfl
set_option maxRecDepth 100000 in
theorem m554 : Cond.methodLink "BorrowedBeat$LawReader" 71 ⟨"BorrowedBeat$LawReader", "negated", "(I)Z"⟩ ∈ uw := muw mT2 230 rfl rfl
set_option maxRecDepth 100000 in
theorem m556 : Cond.instanceMethod ⟨"BorrowedBeat$LawReader", "negated", "(I)Z"⟩ ∈ uw := muw mT2 232 rfl rfl
set_option maxRecDepth 100000 in
theorem m557 : Cond.code ⟨"BorrowedBeat$LawReader", "negated", "(I)Z"⟩ prog_4_method_11_code 2 (Option.some ClassFile.FieldType.boolean) ∈ uw := muw mT2 233 rfl rfl
set_option maxRecDepth 100000 in
theorem m558 : Cond.methodLink "BorrowedBeat$LawReader" 62 ⟨"BorrowedBeat$LawReader", "moreUnits", "(I)Z"⟩ ∈ uw := muw mT2 234 rfl rfl
set_option maxRecDepth 100000 in
theorem m560 : Cond.instanceMethod ⟨"BorrowedBeat$LawReader", "moreUnits", "(I)Z"⟩ ∈ uw := muw mT2 236 rfl rfl
set_option maxRecDepth 100000 in
theorem m561 : Cond.code ⟨"BorrowedBeat$LawReader", "moreUnits", "(I)Z"⟩ prog_4_method_9_code 6 (Option.some ClassFile.FieldType.boolean) ∈ uw := muw mT2 237 rfl rfl
set_option maxRecDepth 100000 in
theorem m562 : Cond.methodLink "BorrowedBeat$LawReader" 47 ⟨"BorrowedBeat$LawReader", "sumBehindCondition", "()Z"⟩ ∈ uw := muw mT2 238 rfl rfl
set_option maxRecDepth 100000 in
theorem m564 : Cond.instanceMethod ⟨"BorrowedBeat$LawReader", "sumBehindCondition", "()Z"⟩ ∈ uw := muw mT3 0 rfl rfl
set_option maxRecDepth 100000 in
theorem m565 : Cond.code ⟨"BorrowedBeat$LawReader", "sumBehindCondition", "()Z"⟩ prog_4_method_7_code 1 (Option.some ClassFile.FieldType.boolean) ∈ uw := muw mT3 1 rfl rfl
set_option maxRecDepth 100000 in
theorem m566 : Cond.selects "BorrowedBeat$TownReader" ⟨"BorrowedBeat$Reader", "readClause", "()Z"⟩ ⟨"BorrowedBeat$TownReader", "readClause", "()Z"⟩ ∈ uw := muw mT3 2 rfl rfl
set_option maxRecDepth 100000 in
theorem m567 : Cond.instanceMethod ⟨"BorrowedBeat$TownReader", "readClause", "()Z"⟩ ∈ uw := muw mT3 3 rfl rfl
set_option maxRecDepth 100000 in
theorem m568 : Cond.code ⟨"BorrowedBeat$TownReader", "readClause", "()Z"⟩ prog_11_method_3_code 2 (Option.some ClassFile.FieldType.boolean) ∈ uw := muw mT3 4 rfl rfl
set_option maxRecDepth 100000 in
theorem m569 : Cond.methodLink "BorrowedBeat$TownReader" 27 ⟨"BorrowedBeat$TownReader", "peek", "()I"⟩ ∈ uw := muw mT3 5 rfl rfl
set_option maxRecDepth 100000 in
theorem m570 : Cond.sameMethod "BorrowedBeat$TownReader" "BorrowedBeat$Reader" "peek" "()I" ∈ uw := muw mT3 6 rfl rfl
set_option maxRecDepth 100000 in
theorem m571 : Cond.selects "BorrowedBeat$TownReader" ⟨"BorrowedBeat$TownReader", "peek", "()I"⟩ ⟨"BorrowedBeat$Reader", "peek", "()I"⟩ ∈ uw := muw mT3 7 rfl rfl
set_option maxRecDepth 100000 in
theorem m572 : Cond.methodLink "BorrowedBeat$TownReader" 38 ⟨"BorrowedBeat$Town", "addPlayer", "()V"⟩ ∈ uw := muw mT3 8 rfl rfl
set_option maxRecDepth 100000 in
theorem m573 : Cond.instanceMethod ⟨"BorrowedBeat$Town", "addPlayer", "()V"⟩ ∈ uw := muw mT3 9 rfl rfl
set_option maxRecDepth 100000 in
theorem m574 : Cond.selects "BorrowedBeat$Town" ⟨"BorrowedBeat$Town", "addPlayer", "()V"⟩ ⟨"BorrowedBeat$Town", "addPlayer", "()V"⟩ ∈ uw := muw mT3 10 rfl rfl
set_option maxRecDepth 100000 in
theorem m575 : Cond.code ⟨"BorrowedBeat$Town", "addPlayer", "()V"⟩ prog_10_method_3_code 1 none ∈ uw := muw mT3 11 rfl rfl
set_option maxRecDepth 100000 in
theorem m576 : Cond.methodLink "BorrowedBeat$TownReader" 41 ⟨"BorrowedBeat$TownReader", "readItems", "(Z)Z"⟩ ∈ uw := muw mT3 12 rfl rfl
set_option maxRecDepth 100000 in
theorem m578 : Cond.instanceMethod ⟨"BorrowedBeat$TownReader", "readItems", "(Z)Z"⟩ ∈ uw := muw mT3 14 rfl rfl
set_option maxRecDepth 100000 in
theorem m579 : Cond.code ⟨"BorrowedBeat$TownReader", "readItems", "(Z)Z"⟩ prog_11_method_4_code 6 (Option.some ClassFile.FieldType.boolean) ∈ uw := muw mT3 15 rfl rfl
set_option maxRecDepth 100000 in
theorem m580 : Cond.methodLink "BorrowedBeat$TownReader" 49 ⟨"BorrowedBeat$TownReader", "itemOf", "(I)I"⟩ ∈ uw := muw mT3 16 rfl rfl
set_option maxRecDepth 100000 in
theorem m581 : Cond.static ⟨"BorrowedBeat$TownReader", "itemOf", "(I)I"⟩ ∈ uw := muw mT3 17 rfl rfl
set_option maxRecDepth 100000 in
theorem m582 : Cond.code ⟨"BorrowedBeat$TownReader", "itemOf", "(I)I"⟩ prog_11_method_5_code 1 (Option.some ClassFile.FieldType.int) ∈ uw := muw mT3 18 rfl rfl
set_option maxRecDepth 100000 in
theorem m583 : Cond.methodLink "BorrowedBeat$TownReader" 45 ⟨"BorrowedBeat$TownReader", "fail", "()Z"⟩ ∈ uw := muw mT3 19 rfl rfl
set_option maxRecDepth 100000 in
theorem m584 : Cond.sameMethod "BorrowedBeat$TownReader" "BorrowedBeat$Reader" "fail" "()Z" ∈ uw := muw mT3 20 rfl rfl
set_option maxRecDepth 100000 in
theorem m585 : Cond.selects "BorrowedBeat$TownReader" ⟨"BorrowedBeat$TownReader", "fail", "()Z"⟩ ⟨"BorrowedBeat$Reader", "fail", "()Z"⟩ ∈ uw := muw mT3 21 rfl rfl
set_option maxRecDepth 100000 in
theorem m586 : Cond.fieldLink "BorrowedBeat$TownReader" 53 "BorrowedBeat$TownReader" "LEAST" "[I" ∈ uw := muw mT3 22 rfl rfl
set_option maxRecDepth 100000 in
theorem m588 : Cond.fieldLink "BorrowedBeat$TownReader" 57 "BorrowedBeat$TownReader" "MOST" "[I" ∈ uw := muw mT3 24 rfl rfl
set_option maxRecDepth 100000 in
theorem m590 : Cond.methodLink "BorrowedBeat$TownReader" 60 ⟨"BorrowedBeat$TownReader", "readNumber", "(III)I"⟩ ∈ uw := muw mT3 26 rfl rfl
set_option maxRecDepth 100000 in
theorem m591 : Cond.sameMethod "BorrowedBeat$TownReader" "BorrowedBeat$Reader" "readNumber" "(III)I" ∈ uw := muw mT3 27 rfl rfl
set_option maxRecDepth 100000 in
theorem m592 : Cond.selects "BorrowedBeat$TownReader" ⟨"BorrowedBeat$TownReader", "readNumber", "(III)I"⟩ ⟨"BorrowedBeat$Reader", "readNumber", "(III)I"⟩ ∈ uw := muw mT3 28 rfl rfl
set_option maxRecDepth 100000 in
theorem m593 : Cond.methodLink "BorrowedBeat$TownReader" 64 ⟨"BorrowedBeat$TownReader", "keep", "(ZII)V"⟩ ∈ uw := muw mT3 29 rfl rfl
set_option maxRecDepth 100000 in
theorem m595 : Cond.instanceMethod ⟨"BorrowedBeat$TownReader", "keep", "(ZII)V"⟩ ∈ uw := muw mT3 31 rfl rfl
set_option maxRecDepth 100000 in
theorem m596 : Cond.code ⟨"BorrowedBeat$TownReader", "keep", "(ZII)V"⟩ prog_11_method_6_code 5 none ∈ uw := muw mT3 32 rfl rfl
set_option maxRecDepth 100000 in
theorem m597 : Cond.methodLink "BorrowedBeat$TownReader" 71 ⟨"BorrowedBeat$Town", "put", "(III)V"⟩ ∈ uw := muw mT3 33 rfl rfl
set_option maxRecDepth 100000 in
theorem m598 : Cond.instanceMethod ⟨"BorrowedBeat$Town", "put", "(III)V"⟩ ∈ uw := muw mT3 34 rfl rfl
set_option maxRecDepth 100000 in
theorem m599 : Cond.selects "BorrowedBeat$Town" ⟨"BorrowedBeat$Town", "put", "(III)V"⟩ ⟨"BorrowedBeat$Town", "put", "(III)V"⟩ ∈ uw := muw mT3 35 rfl rfl
set_option maxRecDepth 100000 in
theorem m600 : Cond.code ⟨"BorrowedBeat$Town", "put", "(III)V"⟩ prog_10_method_4_code 4 none ∈ uw := muw mT3 36 rfl rfl
set_option maxRecDepth 100000 in
theorem m601 : Cond.methodLink "BorrowedBeat$Reader" 31 ⟨"BorrowedBeat$Reader", "nextClause", "()Z"⟩ ∈ uw := muw mT3 37 rfl rfl
set_option maxRecDepth 100000 in
theorem m603 : Cond.instanceMethod ⟨"BorrowedBeat$Reader", "nextClause", "()Z"⟩ ∈ uw := muw mT3 39 rfl rfl
set_option maxRecDepth 100000 in
theorem m604 : Cond.code ⟨"BorrowedBeat$Reader", "nextClause", "()Z"⟩ prog_7_method_6_code 1 (Option.some ClassFile.FieldType.boolean) ∈ uw := muw mT3 40 rfl rfl
set_option maxRecDepth 100000 in
theorem m605 : Cond.methodLink "BorrowedBeat$Reader" 44 ⟨"BorrowedBeat$Reader", "take", "(I)Z"⟩ ∈ uw := muw mT3 41 rfl rfl
set_option maxRecDepth 100000 in
theorem m606 : Cond.methodLink "BorrowedBeat$Reader" 34 ⟨"BorrowedBeat$Reader", "isWhole", "()Z"⟩ ∈ uw := muw mT3 42 rfl rfl
set_option maxRecDepth 100000 in
theorem mn607 : Cond.declares ⟨"BorrowedBeat$Reader", "isWhole", "()Z"⟩ ∈ nw := mnw mT3 43 rfl rfl
set_option maxRecDepth 100000 in
theorem m608 : Cond.sameMethod "BorrowedBeat$Reader" "BorrowedBeat$Reader" "isWhole" "()Z" ∈ uw := muw mT3 44 rfl rfl
set_option maxRecDepth 100000 in
theorem m609 : Cond.selects "BorrowedBeat$LawReader" ⟨"BorrowedBeat$Reader", "isWhole", "()Z"⟩ ⟨"BorrowedBeat$LawReader", "isWhole", "()Z"⟩ ∈ uw := muw mT3 45 rfl rfl
set_option maxRecDepth 100000 in
theorem m610 : Cond.instanceMethod ⟨"BorrowedBeat$LawReader", "isWhole", "()Z"⟩ ∈ uw := muw mT3 46 rfl rfl
set_option maxRecDepth 100000 in
theorem m611 : Cond.code ⟨"BorrowedBeat$LawReader", "isWhole", "()Z"⟩ prog_4_method_3_code 1 (Option.some ClassFile.FieldType.boolean) ∈ uw := muw mT3 47 rfl rfl
set_option maxRecDepth 100000 in
theorem m612 : Cond.selects "BorrowedBeat$TownReader" ⟨"BorrowedBeat$Reader", "isWhole", "()Z"⟩ ⟨"BorrowedBeat$TownReader", "isWhole", "()Z"⟩ ∈ uw := muw mT3 48 rfl rfl
set_option maxRecDepth 100000 in
theorem m613 : Cond.instanceMethod ⟨"BorrowedBeat$TownReader", "isWhole", "()Z"⟩ ∈ uw := muw mT3 49 rfl rfl
set_option maxRecDepth 100000 in
theorem m614 : Cond.code ⟨"BorrowedBeat$TownReader", "isWhole", "()Z"⟩ prog_11_method_7_code 2 (Option.some ClassFile.FieldType.boolean) ∈ uw := muw mT3 50 rfl rfl
set_option maxRecDepth 100000 in
theorem m615 : Cond.methodLink "BorrowedBeat" 111 ⟨"BorrowedBeat$LawReader", "read", "()I"⟩ ∈ uw := muw mT3 51 rfl rfl
set_option maxRecDepth 100000 in
theorem m616 : Cond.sameMethod "BorrowedBeat$LawReader" "BorrowedBeat$Reader" "read" "()I" ∈ uw := muw mT3 52 rfl rfl
set_option maxRecDepth 100000 in
theorem m617 : Cond.selects "BorrowedBeat$LawReader" ⟨"BorrowedBeat$LawReader", "read", "()I"⟩ ⟨"BorrowedBeat$Reader", "read", "()I"⟩ ∈ uw := muw mT3 53 rfl rfl
set_option maxRecDepth 100000 in
theorem m618 : Cond.methodLink "BorrowedBeatLaw" 34 ⟨"BorrowedBeat", "text", "(I)I"⟩ ∈ uw := muw mT3 54 rfl rfl
set_option maxRecDepth 100000 in
theorem m619 : Cond.instanceMethod ⟨"BorrowedBeat", "text", "(I)I"⟩ ∈ uw := muw mT3 55 rfl rfl
set_option maxRecDepth 100000 in
theorem m620 : Cond.selects "BorrowedBeat" ⟨"BorrowedBeat", "text", "(I)I"⟩ ⟨"BorrowedBeat", "text", "(I)I"⟩ ∈ uw := muw mT3 56 rfl rfl
set_option maxRecDepth 100000 in
theorem m621 : Cond.code ⟨"BorrowedBeat", "text", "(I)I"⟩ prog_1_method_5_code 2 (Option.some ClassFile.FieldType.int) ∈ uw := muw mT3 57 rfl rfl
set_option maxRecDepth 100000 in
theorem m622 : Cond.methodLink "BorrowedBeat" 112 ⟨"BorrowedBeat", "openTown", "()V"⟩ ∈ uw := muw mT3 58 rfl rfl
set_option maxRecDepth 100000 in
theorem m624 : Cond.instanceMethod ⟨"BorrowedBeat", "openTown", "()V"⟩ ∈ uw := muw mT3 60 rfl rfl
set_option maxRecDepth 100000 in
theorem m625 : Cond.code ⟨"BorrowedBeat", "openTown", "()V"⟩ prog_1_method_6_code 3 none ∈ uw := muw mT3 61 rfl rfl
set_option maxRecDepth 100000 in
theorem m626 : Cond.methodLink "BorrowedBeat" 128 ⟨"BorrowedBeat$Town", "copyFrom", "(LBorrowedBeat$Town;)V"⟩ ∈ uw := muw mT3 62 rfl rfl
set_option maxRecDepth 100000 in
theorem m627 : Cond.instanceMethod ⟨"BorrowedBeat$Town", "copyFrom", "(LBorrowedBeat$Town;)V"⟩ ∈ uw := muw mT3 63 rfl rfl
set_option maxRecDepth 100000 in
theorem m628 : Cond.selects "BorrowedBeat$Town" ⟨"BorrowedBeat$Town", "copyFrom", "(LBorrowedBeat$Town;)V"⟩ ⟨"BorrowedBeat$Town", "copyFrom", "(LBorrowedBeat$Town;)V"⟩ ∈ uw := muw mT3 64 rfl rfl
set_option maxRecDepth 100000 in
theorem m629 : Cond.code ⟨"BorrowedBeat$Town", "copyFrom", "(LBorrowedBeat$Town;)V"⟩ prog_10_method_5_code 2 none ∈ uw := muw mT3 65 rfl rfl
set_option maxRecDepth 100000 in
theorem m630 : Cond.methodLink "BorrowedBeat$Town" 34 ⟨"java/lang/System", "arraycopy", "(Ljava/lang/Object;ILjava/lang/Object;II)V"⟩ ∈ uw := muw mT3 66 rfl rfl
set_option maxRecDepth 100000 in
theorem m631 : Cond.static ⟨"java/lang/System", "arraycopy", "(Ljava/lang/Object;ILjava/lang/Object;II)V"⟩ ∈ uw := muw mT3 67 rfl rfl
set_option maxRecDepth 100000 in
theorem m632 : Cond.native ⟨"java/lang/System", "arraycopy", "(Ljava/lang/Object;ILjava/lang/Object;II)V"⟩ ∈ uw := muw mT3 68 rfl rfl
set_option maxRecDepth 100000 in
theorem m633 : Cond.methodLink "BorrowedBeat" 132 ⟨"BorrowedBeat$Score", "open", "(LBorrowedBeat$Town;)V"⟩ ∈ uw := muw mT3 69 rfl rfl
set_option maxRecDepth 100000 in
theorem m634 : Cond.instanceMethod ⟨"BorrowedBeat$Score", "open", "(LBorrowedBeat$Town;)V"⟩ ∈ uw := muw mT3 70 rfl rfl
set_option maxRecDepth 100000 in
theorem m635 : Cond.selects "BorrowedBeat$Score" ⟨"BorrowedBeat$Score", "open", "(LBorrowedBeat$Town;)V"⟩ ⟨"BorrowedBeat$Score", "open", "(LBorrowedBeat$Town;)V"⟩ ∈ uw := muw mT3 71 rfl rfl
set_option maxRecDepth 100000 in
theorem m636 : Cond.code ⟨"BorrowedBeat$Score", "open", "(LBorrowedBeat$Town;)V"⟩ prog_8_method_2_code 2 none ∈ uw := muw mT3 72 rfl rfl
set_option maxRecDepth 100000 in
theorem m637 : Cond.methodLink "BorrowedBeat$Score" 38 ⟨"java/lang/System", "arraycopy", "(Ljava/lang/Object;ILjava/lang/Object;II)V"⟩ ∈ uw := muw mT3 73 rfl rfl
set_option maxRecDepth 100000 in
theorem m638 : Cond.methodLink "BorrowedBeat$Score" 46 ⟨"java/util/Arrays", "fill", "([II)V"⟩ ∈ uw := muw mT3 74 rfl rfl
set_option maxRecDepth 100000 in
theorem m639 : Cond.static ⟨"java/util/Arrays", "fill", "([II)V"⟩ ∈ uw := muw mT3 75 rfl rfl
set_option maxRecDepth 100000 in
theorem m640 : Cond.code ⟨"java/util/Arrays", "fill", "([II)V"⟩ prog_24_method_103_code 4 none ∈ uw := muw mT3 76 rfl rfl
set_option maxRecDepth 100000 in
theorem m641 : Cond.methodLink "BorrowedBeat" 135 ⟨"BorrowedBeat$Diary", "open", "()V"⟩ ∈ uw := muw mT3 77 rfl rfl
set_option maxRecDepth 100000 in
theorem m642 : Cond.instanceMethod ⟨"BorrowedBeat$Diary", "open", "()V"⟩ ∈ uw := muw mT3 78 rfl rfl
set_option maxRecDepth 100000 in
theorem m643 : Cond.selects "BorrowedBeat$Diary" ⟨"BorrowedBeat$Diary", "open", "()V"⟩ ⟨"BorrowedBeat$Diary", "open", "()V"⟩ ∈ uw := muw mT3 79 rfl rfl
set_option maxRecDepth 100000 in
theorem m644 : Cond.code ⟨"BorrowedBeat$Diary", "open", "()V"⟩ prog_2_method_2_code 1 none ∈ uw := muw mT3 80 rfl rfl
set_option maxRecDepth 100000 in
theorem m645 : Cond.methodLink "BorrowedBeat" 140 ⟨"BorrowedBeat$Law", "forget", "()V"⟩ ∈ uw := muw mT3 81 rfl rfl
set_option maxRecDepth 100000 in
theorem m646 : Cond.instanceMethod ⟨"BorrowedBeat$Law", "forget", "()V"⟩ ∈ uw := muw mT3 82 rfl rfl
set_option maxRecDepth 100000 in
theorem m647 : Cond.selects "BorrowedBeat$Law" ⟨"BorrowedBeat$Law", "forget", "()V"⟩ ⟨"BorrowedBeat$Law", "forget", "()V"⟩ ∈ uw := muw mT3 83 rfl rfl
set_option maxRecDepth 100000 in
theorem m648 : Cond.code ⟨"BorrowedBeat$Law", "forget", "()V"⟩ prog_3_method_2_code 1 none ∈ uw := muw mT3 84 rfl rfl
set_option maxRecDepth 100000 in
theorem m649 : Cond.methodLink "BorrowedBeat" 121 ⟨"BorrowedBeat$LawReader", "toLaw", "()LBorrowedBeat$Law;"⟩ ∈ uw := muw mT3 85 rfl rfl
set_option maxRecDepth 100000 in
theorem m650 : Cond.instanceMethod ⟨"BorrowedBeat$LawReader", "toLaw", "()LBorrowedBeat$Law;"⟩ ∈ uw := muw mT3 86 rfl rfl
set_option maxRecDepth 100000 in
theorem m651 : Cond.selects "BorrowedBeat$LawReader" ⟨"BorrowedBeat$LawReader", "toLaw", "()LBorrowedBeat$Law;"⟩ ⟨"BorrowedBeat$LawReader", "toLaw", "()LBorrowedBeat$Law;"⟩ ∈ uw := muw mT3 87 rfl rfl
set_option maxRecDepth 100000 in
theorem m652 : Cond.code ⟨"BorrowedBeat$LawReader", "toLaw", "()LBorrowedBeat$Law;"⟩ prog_4_method_4_code 1 (Option.some (ClassFile.FieldType.object "BorrowedBeat$Law")) ∈ uw := muw mT3 88 rfl rfl
set_option maxRecDepth 100000 in
theorem m653 : Cond.classLink "BorrowedBeat$LawReader" 21 "BorrowedBeat$Law" ∈ uw := muw mT3 89 rfl rfl
set_option maxRecDepth 100000 in
theorem m654 : Cond.instantiable "BorrowedBeat$Law" 5 ∈ uw := muw mT3 90 rfl rfl
set_option maxRecDepth 100000 in
theorem m655 : Cond.methodLink "BorrowedBeat$LawReader" 23 ⟨"java/util/Arrays", "copyOf", "([II)[I"⟩ ∈ uw := muw mT3 91 rfl rfl
set_option maxRecDepth 100000 in
theorem m656 : Cond.static ⟨"java/util/Arrays", "copyOf", "([II)[I"⟩ ∈ uw := muw mT3 92 rfl rfl
set_option maxRecDepth 100000 in
theorem m657 : Cond.code ⟨"java/util/Arrays", "copyOf", "([II)[I"⟩ prog_24_method_123_code 3 (Option.some (ClassFile.FieldType.array ClassFile.FieldType.int)) ∈ uw := muw mT3 93 rfl rfl
set_option maxRecDepth 100000 in
theorem m658 : Cond.methodLink "java/util/Arrays" 316 ⟨"[I", "clone", "()Ljava/lang/Object;"⟩ ∈ uw := muw mT3 94 rfl rfl
set_option maxRecDepth 100000 in
theorem m659 : Cond.sameMethod "[I" "java/lang/Object" "clone" "()Ljava/lang/Object;" ∈ uw := muw mT3 95 rfl rfl
set_option maxRecDepth 100000 in
theorem m660 : Cond.native ⟨"java/lang/Object", "clone", "()Ljava/lang/Object;"⟩ ∈ uw := muw mT3 96 rfl rfl
set_option maxRecDepth 100000 in
theorem m661 : Cond.instanceMethod ⟨"java/lang/Object", "clone", "()Ljava/lang/Object;"⟩ ∈ uw := muw mT3 97 rfl rfl
set_option maxRecDepth 100000 in
theorem m662 : Cond.selects "[I" ⟨"[I", "clone", "()Ljava/lang/Object;"⟩ ⟨"java/lang/Object", "clone", "()Ljava/lang/Object;"⟩ ∈ uw := muw mT3 98 rfl rfl
set_option maxRecDepth 100000 in
theorem m665 : Cond.methodLink "java/util/Arrays" 304 ⟨"java/lang/Math", "min", "(II)I"⟩ ∈ uw := muw mT3 101 rfl rfl
set_option maxRecDepth 100000 in
theorem m666 : Cond.static ⟨"java/lang/Math", "min", "(II)I"⟩ ∈ uw := muw mT3 102 rfl rfl
set_option maxRecDepth 100000 in
theorem m667 : Cond.code ⟨"java/lang/Math", "min", "(II)I"⟩ prog_19_method_69_code 2 (Option.some ClassFile.FieldType.int) ∈ uw := muw mT3 103 rfl rfl
set_option maxRecDepth 100000 in
theorem m668 : Cond.methodLink "java/util/Arrays" 150 ⟨"java/lang/System", "arraycopy", "(Ljava/lang/Object;ILjava/lang/Object;II)V"⟩ ∈ uw := muw mT3 104 rfl rfl
set_option maxRecDepth 100000 in
theorem m669 : Cond.methodLink "BorrowedBeat$LawReader" 29 ⟨"BorrowedBeat$Law", "<init>", "([I)V"⟩ ∈ uw := muw mT3 105 rfl rfl
set_option maxRecDepth 100000 in
theorem m670 : Cond.instanceMethod ⟨"BorrowedBeat$Law", "<init>", "([I)V"⟩ ∈ uw := muw mT3 106 rfl rfl
set_option maxRecDepth 100000 in
theorem m671 : Cond.code ⟨"BorrowedBeat$Law", "<init>", "([I)V"⟩ prog_3_method_1_code 4 none ∈ uw := muw mT3 107 rfl rfl
set_option maxRecDepth 100000 in
theorem m672 : Cond.methodLink "BorrowedBeat$Law" 3 ⟨"java/lang/Object", "<init>", "()V"⟩ ∈ uw := muw mT3 108 rfl rfl
set_option maxRecDepth 100000 in
theorem m673 : Cond.fieldLink "BorrowedBeat$Law" 9 "BorrowedBeat$Law" "code" "[I" ∈ uw := muw mT3 109 rfl rfl
set_option maxRecDepth 100000 in
theorem m674 : Cond.fieldLink "BorrowedBeat$Law" 15 "BorrowedBeat$Law" "stack" "[I" ∈ uw := muw mT3 110 rfl rfl
set_option maxRecDepth 100000 in
theorem m675 : Cond.fieldLink "BorrowedBeat$Law" 18 "BorrowedBeat$Law" "kept" "[I" ∈ uw := muw mT3 111 rfl rfl
set_option maxRecDepth 100000 in
theorem m676 : Cond.fieldLink "BorrowedBeat$Law" 33 "BorrowedBeat$Law" "top" "I" ∈ uw := muw mT3 112 rfl rfl
set_option maxRecDepth 100000 in
theorem m677 : Cond.fieldLink "BorrowedBeat$Law" 21 "BorrowedBeat$Law" "known" "I" ∈ uw := muw mT3 113 rfl rfl
set_option maxRecDepth 100000 in
theorem m689 : Cond.methodLink "BorrowedBeatLaw" 44 ⟨"BorrowedBeat", "set", "(II)Z"⟩ ∈ uw := muw mT3 125 rfl rfl
set_option maxRecDepth 100000 in
theorem m690 : Cond.instanceMethod ⟨"BorrowedBeat", "set", "(II)Z"⟩ ∈ uw := muw mT3 126 rfl rfl
set_option maxRecDepth 100000 in
theorem m691 : Cond.selects "BorrowedBeat" ⟨"BorrowedBeat", "set", "(II)Z"⟩ ⟨"BorrowedBeat", "set", "(II)Z"⟩ ∈ uw := muw mT3 127 rfl rfl
set_option maxRecDepth 100000 in
theorem m692 : Cond.code ⟨"BorrowedBeat", "set", "(II)Z"⟩ prog_1_method_8_code 4 (Option.some ClassFile.FieldType.boolean) ∈ uw := muw mT3 128 rfl rfl
set_option maxRecDepth 100000 in
theorem m693 : Cond.methodLink "BorrowedBeat" 179 ⟨"BorrowedBeat", "mostOf", "(I)I"⟩ ∈ uw := muw mT3 129 rfl rfl
set_option maxRecDepth 100000 in
theorem m695 : Cond.instanceMethod ⟨"BorrowedBeat", "mostOf", "(I)I"⟩ ∈ uw := muw mT3 131 rfl rfl
set_option maxRecDepth 100000 in
theorem m696 : Cond.code ⟨"BorrowedBeat", "mostOf", "(I)I"⟩ prog_1_method_9_code 2 (Option.some ClassFile.FieldType.int) ∈ uw := muw mT3 132 rfl rfl
set_option maxRecDepth 100000 in
theorem m697 : Cond.constant "BorrowedBeat" 188 (-1000000) ∈ uw := muw mT3 133 rfl rfl
set_option maxRecDepth 100000 in
theorem m698 : Cond.methodLink "BorrowedBeatLaw" 49 ⟨"BorrowedBeat", "tell", "(III)Z"⟩ ∈ uw := muw mT3 134 rfl rfl
set_option maxRecDepth 100000 in
theorem m699 : Cond.instanceMethod ⟨"BorrowedBeat", "tell", "(III)Z"⟩ ∈ uw := muw mT3 135 rfl rfl
set_option maxRecDepth 100000 in
theorem m700 : Cond.selects "BorrowedBeat" ⟨"BorrowedBeat", "tell", "(III)Z"⟩ ⟨"BorrowedBeat", "tell", "(III)Z"⟩ ∈ uw := muw mT3 136 rfl rfl
set_option maxRecDepth 100000 in
theorem m701 : Cond.code ⟨"BorrowedBeat", "tell", "(III)Z"⟩ prog_1_method_10_code 4 (Option.some ClassFile.FieldType.boolean) ∈ uw := muw mT3 137 rfl rfl
set_option maxRecDepth 100000 in
theorem m702 : Cond.methodLink "BorrowedBeat" 147 ⟨"BorrowedBeat", "isPlayer", "(I)Z"⟩ ∈ uw := muw mT3 138 rfl rfl
set_option maxRecDepth 100000 in
theorem m704 : Cond.instanceMethod ⟨"BorrowedBeat", "isPlayer", "(I)Z"⟩ ∈ uw := muw mT3 140 rfl rfl
set_option maxRecDepth 100000 in
theorem m705 : Cond.code ⟨"BorrowedBeat", "isPlayer", "(I)Z"⟩ prog_1_method_13_code 2 (Option.some ClassFile.FieldType.boolean) ∈ uw := muw mT3 141 rfl rfl
set_option maxRecDepth 100000 in
theorem m706 : Cond.methodLink "BorrowedBeat" 189 ⟨"BorrowedBeat", "mayTell", "(III)Z"⟩ ∈ uw := muw mT3 142 rfl rfl
set_option maxRecDepth 100000 in
theorem m708 : Cond.instanceMethod ⟨"BorrowedBeat", "mayTell", "(III)Z"⟩ ∈ uw := muw mT3 144 rfl rfl
set_option maxRecDepth 100000 in
theorem m709 : Cond.code ⟨"BorrowedBeat", "mayTell", "(III)Z"⟩ prog_1_method_11_code 4 (Option.some ClassFile.FieldType.boolean) ∈ uw := muw mT3 145 rfl rfl
set_option maxRecDepth 100000 in
theorem m710 : Cond.methodLink "BorrowedBeatLaw" 54 ⟨"BorrowedBeat", "mark", "(IZ)Z"⟩ ∈ uw := muw mT3 146 rfl rfl
set_option maxRecDepth 100000 in
theorem m711 : Cond.instanceMethod ⟨"BorrowedBeat", "mark", "(IZ)Z"⟩ ∈ uw := muw mT3 147 rfl rfl
set_option maxRecDepth 100000 in
theorem m712 : Cond.selects "BorrowedBeat" ⟨"BorrowedBeat", "mark", "(IZ)Z"⟩ ⟨"BorrowedBeat", "mark", "(IZ)Z"⟩ ∈ uw := muw mT3 148 rfl rfl
set_option maxRecDepth 100000 in
theorem m713 : Cond.code ⟨"BorrowedBeat", "mark", "(IZ)Z"⟩ prog_1_method_12_code 3 (Option.some ClassFile.FieldType.boolean) ∈ uw := muw mT3 149 rfl rfl
set_option maxRecDepth 100000 in
theorem m714 : Cond.methodLink "BorrowedBeat" 193 ⟨"BorrowedBeat$Score", "isMarked", "(I)Z"⟩ ∈ uw := muw mT3 150 rfl rfl
set_option maxRecDepth 100000 in
theorem m715 : Cond.instanceMethod ⟨"BorrowedBeat$Score", "isMarked", "(I)Z"⟩ ∈ uw := muw mT3 151 rfl rfl
set_option maxRecDepth 100000 in
theorem m716 : Cond.selects "BorrowedBeat$Score" ⟨"BorrowedBeat$Score", "isMarked", "(I)Z"⟩ ⟨"BorrowedBeat$Score", "isMarked", "(I)Z"⟩ ∈ uw := muw mT3 152 rfl rfl
set_option maxRecDepth 100000 in
theorem m717 : Cond.code ⟨"BorrowedBeat$Score", "isMarked", "(I)Z"⟩ prog_8_method_4_code 2 (Option.some ClassFile.FieldType.boolean) ∈ uw := muw mT3 153 rfl rfl
set_option maxRecDepth 100000 in
theorem m718 : Cond.methodLink "BorrowedBeatLaw" 59 ⟨"BorrowedBeat", "damp", "(I)I"⟩ ∈ uw := muw mT3 154 rfl rfl
set_option maxRecDepth 100000 in
theorem m719 : Cond.instanceMethod ⟨"BorrowedBeat", "damp", "(I)I"⟩ ∈ uw := muw mT3 155 rfl rfl
set_option maxRecDepth 100000 in
theorem m720 : Cond.selects "BorrowedBeat" ⟨"BorrowedBeat", "damp", "(I)I"⟩ ⟨"BorrowedBeat", "damp", "(I)I"⟩ ∈ uw := muw mT3 156 rfl rfl
set_option maxRecDepth 100000 in
theorem m721 : Cond.code ⟨"BorrowedBeat", "damp", "(I)I"⟩ prog_1_method_16_code 2 (Option.some ClassFile.FieldType.int) ∈ uw := muw mT3 157 rfl rfl
set_option maxRecDepth 100000 in
theorem m722 : Cond.methodLink "BorrowedBeat" 199 ⟨"BorrowedBeat", "wetness", "(I)I"⟩ ∈ uw := muw mT3 158 rfl rfl
set_option maxRecDepth 100000 in
theorem m724 : Cond.instanceMethod ⟨"BorrowedBeat", "wetness", "(I)I"⟩ ∈ uw := muw mT3 160 rfl rfl
set_option maxRecDepth 100000 in
theorem m725 : Cond.code ⟨"BorrowedBeat", "wetness", "(I)I"⟩ prog_1_method_17_code 3 (Option.some ClassFile.FieldType.int) ∈ uw := muw mT3 161 rfl rfl
set_option maxRecDepth 100000 in
theorem m726 : Cond.methodLink "BorrowedBeat" 202 ⟨"BorrowedBeat$Law", "wetness", "(ILBorrowedBeat$Town;)I"⟩ ∈ uw := muw mT3 162 rfl rfl
set_option maxRecDepth 100000 in
theorem m727 : Cond.instanceMethod ⟨"BorrowedBeat$Law", "wetness", "(ILBorrowedBeat$Town;)I"⟩ ∈ uw := muw mT3 163 rfl rfl
set_option maxRecDepth 100000 in
theorem m728 : Cond.selects "BorrowedBeat$Law" ⟨"BorrowedBeat$Law", "wetness", "(ILBorrowedBeat$Town;)I"⟩ ⟨"BorrowedBeat$Law", "wetness", "(ILBorrowedBeat$Town;)I"⟩ ∈ uw := muw mT3 164 rfl rfl
set_option maxRecDepth 100000 in
theorem m729 : Cond.code ⟨"BorrowedBeat$Law", "wetness", "(ILBorrowedBeat$Town;)I"⟩ prog_3_method_3_code 4 (Option.some ClassFile.FieldType.int) ∈ uw := muw mT3 165 rfl rfl
set_option maxRecDepth 100000 in
theorem m730 : Cond.methodLink "BorrowedBeat$Law" 25 ⟨"BorrowedBeat$Law", "worth", "(IILBorrowedBeat$Town;)I"⟩ ∈ uw := muw mT3 166 rfl rfl
set_option maxRecDepth 100000 in
theorem m732 : Cond.instanceMethod ⟨"BorrowedBeat$Law", "worth", "(IILBorrowedBeat$Town;)I"⟩ ∈ uw := muw mT3 168 rfl rfl
set_option maxRecDepth 100000 in
theorem m733 : Cond.code ⟨"BorrowedBeat$Law", "worth", "(IILBorrowedBeat$Town;)I"⟩ prog_3_method_4_code 7 (Option.some ClassFile.FieldType.int) ∈ uw := muw mT3 169 rfl rfl
set_option maxRecDepth 100000 in
theorem m734 : Cond.methodLink "BorrowedBeat$Law" 36 ⟨"BorrowedBeat$Law", "push", "(I)V"⟩ ∈ uw := muw mT3 170 rfl rfl
set_option maxRecDepth 100000 in
theorem m736 : Cond.instanceMethod ⟨"BorrowedBeat$Law", "push", "(I)V"⟩ ∈ uw := muw mT3 172 rfl rfl
set_option maxRecDepth 100000 in
theorem m737 : Cond.code ⟨"BorrowedBeat$Law", "push", "(I)V"⟩ prog_3_method_7_code 2 none ∈ uw := muw mT3 173 rfl rfl
set_option maxRecDepth 100000 in
theorem m738 : Cond.methodLink "BorrowedBeat$Law" 40 ⟨"BorrowedBeat$Law", "pop", "()I"⟩ ∈ uw := muw mT3 174 rfl rfl
set_option maxRecDepth 100000 in
theorem m740 : Cond.instanceMethod ⟨"BorrowedBeat$Law", "pop", "()I"⟩ ∈ uw := muw mT3 176 rfl rfl
set_option maxRecDepth 100000 in
theorem m741 : Cond.code ⟨"BorrowedBeat$Law", "pop", "()I"⟩ prog_3_method_8_code 1 (Option.some ClassFile.FieldType.int) ∈ uw := muw mT3 177 rfl rfl
set_option maxRecDepth 100000 in
theorem m742 : Cond.methodLink "BorrowedBeat$Law" 44 ⟨"BorrowedBeat$Law", "work", "(IIILBorrowedBeat$Town;)V"⟩ ∈ uw := muw mT3 178 rfl rfl
set_option maxRecDepth 100000 in
theorem m744 : Cond.instanceMethod ⟨"BorrowedBeat$Law", "work", "(IIILBorrowedBeat$Town;)V"⟩ ∈ uw := muw mT3 180 rfl rfl
set_option maxRecDepth 100000 in
theorem m745 : Cond.code ⟨"BorrowedBeat$Law", "work", "(IIILBorrowedBeat$Town;)V"⟩ prog_3_method_5_code 6 none ∈ uw := muw mT3 181 rfl rfl
set_option maxRecDepth 100000 in
theorem m746 : Cond.methodLink "BorrowedBeat$Law" 56 ⟨"BorrowedBeat$Law", "joined", "(III)I"⟩ ∈ uw := muw mT3 182 rfl rfl
set_option maxRecDepth 100000 in
theorem m747 : Cond.static ⟨"BorrowedBeat$Law", "joined", "(III)I"⟩ ∈ uw := muw mT3 183 rfl rfl
set_option maxRecDepth 100000 in
theorem m748 : Cond.code ⟨"BorrowedBeat$Law", "joined", "(III)I"⟩ prog_3_method_6_code 5 (Option.some ClassFile.FieldType.int) ∈ uw := muw mT3 184 rfl rfl
set_option maxRecDepth 100000 in
theorem m749 : Cond.constant "BorrowedBeat$Law" 59 (-1000000) ∈ uw := muw mT3 185 rfl rfl
set_option maxRecDepth 100000 in
theorem m750 : Cond.constant "BorrowedBeat$Law" 60 1000000 ∈ uw := muw mT3 186 rfl rfl
set_option maxRecDepth 100000 in
theorem mn751 : Cond.methodLinkNest "BorrowedBeat$Law" 29 ⟨"BorrowedBeat", "held", "(III)I"⟩ "BorrowedBeat" ∈ nw := mnw mT3 187 rfl rfl
set_option maxRecDepth 100000 in
theorem m752 : Cond.static ⟨"BorrowedBeat", "held", "(III)I"⟩ ∈ uw := muw mT3 188 rfl rfl
set_option maxRecDepth 100000 in
theorem m753 : Cond.code ⟨"BorrowedBeat", "held", "(III)I"⟩ prog_1_method_49_code 3 (Option.some ClassFile.FieldType.int) ∈ uw := muw mT3 189 rfl rfl
set_option maxRecDepth 100000 in
theorem m756 : Cond.methodLink "BorrowedBeat$Law" 65 ⟨"java/lang/Math", "min", "(JJ)J"⟩ ∈ uw := muw mT3 192 rfl rfl
set_option maxRecDepth 100000 in
theorem m757 : Cond.static ⟨"java/lang/Math", "min", "(JJ)J"⟩ ∈ uw := muw mT3 193 rfl rfl
set_option maxRecDepth 100000 in
theorem m758 : Cond.code ⟨"java/lang/Math", "min", "(JJ)J"⟩ prog_19_method_70_code 4 (Option.some ClassFile.FieldType.long) ∈ uw := muw mT3 194 rfl rfl
set_option maxRecDepth 100000 in
theorem m759 : Cond.methodLink "BorrowedBeat$Law" 71 ⟨"java/lang/Math", "max", "(JJ)J"⟩ ∈ uw := muw mT3 195 rfl rfl
set_option maxRecDepth 100000 in
theorem m760 : Cond.static ⟨"java/lang/Math", "max", "(JJ)J"⟩ ∈ uw := muw mT3 196 rfl rfl
set_option maxRecDepth 100000 in
theorem m761 : Cond.code ⟨"java/lang/Math", "max", "(JJ)J"⟩ prog_19_method_66_code 4 (Option.some ClassFile.FieldType.long) ∈ uw := muw mT3 197 rfl rfl
set_option maxRecDepth 100000 in
theorem m762 : Cond.methodLink "BorrowedBeatLaw" 63 ⟨"BorrowedBeat", "day", "(I)I"⟩ ∈ uw := muw mT3 198 rfl rfl
set_option maxRecDepth 100000 in
theorem m763 : Cond.instanceMethod ⟨"BorrowedBeat", "day", "(I)I"⟩ ∈ uw := muw mT3 199 rfl rfl
set_option maxRecDepth 100000 in
theorem m764 : Cond.selects "BorrowedBeat" ⟨"BorrowedBeat", "day", "(I)I"⟩ ⟨"BorrowedBeat", "day", "(I)I"⟩ ∈ uw := muw mT3 200 rfl rfl
set_option maxRecDepth 100000 in
theorem m765 : Cond.code ⟨"BorrowedBeat", "day", "(I)I"⟩ prog_1_method_18_code 3 (Option.some ClassFile.FieldType.int) ∈ uw := muw mT3 201 rfl rfl
set_option maxRecDepth 100000 in
theorem m766 : Cond.methodLink "BorrowedBeat" 208 ⟨"BorrowedBeat$Diary", "keep", "([I)V"⟩ ∈ uw := muw mT3 202 rfl rfl
set_option maxRecDepth 100000 in
theorem m767 : Cond.instanceMethod ⟨"BorrowedBeat$Diary", "keep", "([I)V"⟩ ∈ uw := muw mT3 203 rfl rfl
set_option maxRecDepth 100000 in
theorem m768 : Cond.selects "BorrowedBeat$Diary" ⟨"BorrowedBeat$Diary", "keep", "([I)V"⟩ ⟨"BorrowedBeat$Diary", "keep", "([I)V"⟩ ∈ uw := muw mT3 204 rfl rfl
set_option maxRecDepth 100000 in
theorem m769 : Cond.code ⟨"BorrowedBeat$Diary", "keep", "([I)V"⟩ prog_2_method_3_code 2 none ∈ uw := muw mT3 205 rfl rfl
set_option maxRecDepth 100000 in
theorem m770 : Cond.methodLink "BorrowedBeat$Diary" 32 ⟨"java/lang/System", "arraycopy", "(Ljava/lang/Object;ILjava/lang/Object;II)V"⟩ ∈ uw := muw mT3 206 rfl rfl
set_option maxRecDepth 100000 in
theorem m771 : Cond.methodLink "BorrowedBeat$Diary" 38 ⟨"java/lang/Math", "min", "(II)I"⟩ ∈ uw := muw mT3 207 rfl rfl
set_option maxRecDepth 100000 in
theorem m772 : Cond.methodLink "BorrowedBeat" 212 ⟨"BorrowedBeat$Town", "goThroughDay", "([III)V"⟩ ∈ uw := muw mT3 208 rfl rfl
set_option maxRecDepth 100000 in
theorem m773 : Cond.instanceMethod ⟨"BorrowedBeat$Town", "goThroughDay", "([III)V"⟩ ∈ uw := muw mT3 209 rfl rfl
set_option maxRecDepth 100000 in
theorem m774 : Cond.selects "BorrowedBeat$Town" ⟨"BorrowedBeat$Town", "goThroughDay", "([III)V"⟩ ⟨"BorrowedBeat$Town", "goThroughDay", "([III)V"⟩ ∈ uw := muw mT3 210 rfl rfl
set_option maxRecDepth 100000 in
theorem m775 : Cond.code ⟨"BorrowedBeat$Town", "goThroughDay", "([III)V"⟩ prog_10_method_7_code 5 none ∈ uw := muw mT3 211 rfl rfl
set_option maxRecDepth 100000 in
theorem m776 : Cond.methodLink "BorrowedBeat$Town" 44 ⟨"BorrowedBeat$Town", "drifted", "(IIII)I"⟩ ∈ uw := muw mT3 212 rfl rfl
set_option maxRecDepth 100000 in
theorem m777 : Cond.instanceMethod ⟨"BorrowedBeat$Town", "drifted", "(IIII)I"⟩ ∈ uw := muw mT3 213 rfl rfl
set_option maxRecDepth 100000 in
theorem m778 : Cond.selects "BorrowedBeat$Town" ⟨"BorrowedBeat$Town", "drifted", "(IIII)I"⟩ ⟨"BorrowedBeat$Town", "drifted", "(IIII)I"⟩ ∈ uw := muw mT3 214 rfl rfl
set_option maxRecDepth 100000 in
theorem m779 : Cond.code ⟨"BorrowedBeat$Town", "drifted", "(IIII)I"⟩ prog_10_method_6_code 6 (Option.some ClassFile.FieldType.int) ∈ uw := muw mT3 215 rfl rfl
set_option maxRecDepth 100000 in
theorem mn780 : Cond.methodLinkNest "BorrowedBeat$Town" 40 ⟨"BorrowedBeat", "held", "(III)I"⟩ "BorrowedBeat" ∈ nw := mnw mT3 216 rfl rfl
set_option maxRecDepth 100000 in
theorem m781 : Cond.methodLink "BorrowedBeatLaw" 67 ⟨"BorrowedBeat", "undo", "()I"⟩ ∈ uw := muw mT3 217 rfl rfl
set_option maxRecDepth 100000 in
theorem m782 : Cond.instanceMethod ⟨"BorrowedBeat", "undo", "()I"⟩ ∈ uw := muw mT3 218 rfl rfl
set_option maxRecDepth 100000 in
theorem m783 : Cond.selects "BorrowedBeat" ⟨"BorrowedBeat", "undo", "()I"⟩ ⟨"BorrowedBeat", "undo", "()I"⟩ ∈ uw := muw mT3 219 rfl rfl
set_option maxRecDepth 100000 in
theorem m784 : Cond.code ⟨"BorrowedBeat", "undo", "()I"⟩ prog_1_method_19_code 1 (Option.some ClassFile.FieldType.int) ∈ uw := muw mT3 220 rfl rfl
set_option maxRecDepth 100000 in
theorem m785 : Cond.methodLink "BorrowedBeat" 219 ⟨"BorrowedBeat$Diary", "takeBack", "([I)V"⟩ ∈ uw := muw mT3 221 rfl rfl
set_option maxRecDepth 100000 in
theorem m786 : Cond.instanceMethod ⟨"BorrowedBeat$Diary", "takeBack", "([I)V"⟩ ∈ uw := muw mT3 222 rfl rfl
set_option maxRecDepth 100000 in
theorem m787 : Cond.selects "BorrowedBeat$Diary" ⟨"BorrowedBeat$Diary", "takeBack", "([I)V"⟩ ⟨"BorrowedBeat$Diary", "takeBack", "([I)V"⟩ ∈ uw := muw mT3 223 rfl rfl
set_option maxRecDepth 100000 in
theorem m788 : Cond.code ⟨"BorrowedBeat$Diary", "takeBack", "([I)V"⟩ prog_2_method_4_code 2 none ∈ uw := muw mT3 224 rfl rfl
set_option maxRecDepth 100000 in
theorem m789 : Cond.methodLink "BorrowedBeatLaw" 169 ⟨"BorrowedBeat", "image", "()I"⟩ ∈ uw := muw mT3 225 rfl rfl
set_option maxRecDepth 100000 in
theorem m790 : Cond.instanceMethod ⟨"BorrowedBeat", "image", "()I"⟩ ∈ uw := muw mT3 226 rfl rfl
set_option maxRecDepth 100000 in
theorem m791 : Cond.selects "BorrowedBeat" ⟨"BorrowedBeat", "image", "()I"⟩ ⟨"BorrowedBeat", "image", "()I"⟩ ∈ uw := muw mT3 227 rfl rfl
set_option maxRecDepth 100000 in
theorem m792 : Cond.code ⟨"BorrowedBeat", "image", "()I"⟩ prog_1_method_20_code 1 (Option.some ClassFile.FieldType.int) ∈ uw := muw mT3 228 rfl rfl
set_option maxRecDepth 100000 in
theorem m793 : Cond.methodLink "BorrowedBeat" 222 ⟨"BorrowedBeat$Diary", "takeImage", "([I)V"⟩ ∈ uw := muw mT3 229 rfl rfl
set_option maxRecDepth 100000 in
theorem m794 : Cond.instanceMethod ⟨"BorrowedBeat$Diary", "takeImage", "([I)V"⟩ ∈ uw := muw mT3 230 rfl rfl
set_option maxRecDepth 100000 in
theorem m795 : Cond.selects "BorrowedBeat$Diary" ⟨"BorrowedBeat$Diary", "takeImage", "([I)V"⟩ ⟨"BorrowedBeat$Diary", "takeImage", "([I)V"⟩ ∈ uw := muw mT3 231 rfl rfl
set_option maxRecDepth 100000 in
theorem m796 : Cond.code ⟨"BorrowedBeat$Diary", "takeImage", "([I)V"⟩ prog_2_method_5_code 2 none ∈ uw := muw mT3 232 rfl rfl
set_option maxRecDepth 100000 in
theorem m797 : Cond.methodLink "BorrowedBeatLaw" 173 ⟨"BorrowedBeat", "back", "()I"⟩ ∈ uw := muw mT3 233 rfl rfl
set_option maxRecDepth 100000 in
theorem m798 : Cond.instanceMethod ⟨"BorrowedBeat", "back", "()I"⟩ ∈ uw := muw mT3 234 rfl rfl
set_option maxRecDepth 100000 in
theorem m799 : Cond.selects "BorrowedBeat" ⟨"BorrowedBeat", "back", "()I"⟩ ⟨"BorrowedBeat", "back", "()I"⟩ ∈ uw := muw mT3 235 rfl rfl
set_option maxRecDepth 100000 in
theorem m800 : Cond.code ⟨"BorrowedBeat", "back", "()I"⟩ prog_1_method_21_code 1 (Option.some ClassFile.FieldType.int) ∈ uw := muw mT3 236 rfl rfl
set_option maxRecDepth 100000 in
theorem m801 : Cond.methodLink "BorrowedBeat" 228 ⟨"BorrowedBeat$Diary", "comeBack", "([I)V"⟩ ∈ uw := muw mT3 237 rfl rfl
set_option maxRecDepth 100000 in
theorem m802 : Cond.instanceMethod ⟨"BorrowedBeat$Diary", "comeBack", "([I)V"⟩ ∈ uw := muw mT3 238 rfl rfl
set_option maxRecDepth 100000 in
theorem m803 : Cond.selects "BorrowedBeat$Diary" ⟨"BorrowedBeat$Diary", "comeBack", "([I)V"⟩ ⟨"BorrowedBeat$Diary", "comeBack", "([I)V"⟩ ∈ uw := muw mT3 239 rfl rfl
set_option maxRecDepth 100000 in
theorem m804 : Cond.code ⟨"BorrowedBeat$Diary", "comeBack", "([I)V"⟩ prog_2_method_6_code 2 none ∈ uw := muw mT4 0 rfl rfl
set_option maxRecDepth 100000 in
theorem m805 : Cond.methodLink "BorrowedBeatLaw" 72 ⟨"BorrowedBeat", "time", "(III)I"⟩ ∈ uw := muw mT4 1 rfl rfl
set_option maxRecDepth 100000 in
theorem m806 : Cond.instanceMethod ⟨"BorrowedBeat", "time", "(III)I"⟩ ∈ uw := muw mT4 2 rfl rfl
set_option maxRecDepth 100000 in
theorem m807 : Cond.selects "BorrowedBeat" ⟨"BorrowedBeat", "time", "(III)I"⟩ ⟨"BorrowedBeat", "time", "(III)I"⟩ ∈ uw := muw mT4 3 rfl rfl
set_option maxRecDepth 100000 in
theorem m808 : Cond.code ⟨"BorrowedBeat", "time", "(III)I"⟩ prog_1_method_22_code 4 (Option.some ClassFile.FieldType.int) ∈ uw := muw mT4 4 rfl rfl
set_option maxRecDepth 100000 in
theorem m809 : Cond.methodLink "BorrowedBeat" 231 ⟨"BorrowedBeat", "isBar", "(I)Z"⟩ ∈ uw := muw mT4 5 rfl rfl
set_option maxRecDepth 100000 in
theorem m811 : Cond.instanceMethod ⟨"BorrowedBeat", "isBar", "(I)Z"⟩ ∈ uw := muw mT4 7 rfl rfl
set_option maxRecDepth 100000 in
theorem m812 : Cond.code ⟨"BorrowedBeat", "isBar", "(I)Z"⟩ prog_1_method_14_code 2 (Option.some ClassFile.FieldType.boolean) ∈ uw := muw mT4 8 rfl rfl
set_option maxRecDepth 100000 in
theorem m813 : Cond.constant "BorrowedBeat" 234 1000000000 ∈ uw := muw mT4 9 rfl rfl
set_option maxRecDepth 100000 in
theorem m814 : Cond.methodLink "BorrowedBeat" 235 ⟨"BorrowedBeat$Play", "perform", "(LBorrowedBeat$Score;I)I"⟩ ∈ uw := muw mT4 10 rfl rfl
set_option maxRecDepth 100000 in
theorem m815 : Cond.instanceMethod ⟨"BorrowedBeat$Play", "perform", "(LBorrowedBeat$Score;I)I"⟩ ∈ uw := muw mT4 11 rfl rfl
set_option maxRecDepth 100000 in
theorem m816 : Cond.selects "BorrowedBeat$Play" ⟨"BorrowedBeat$Play", "perform", "(LBorrowedBeat$Score;I)I"⟩ ⟨"BorrowedBeat$Play", "perform", "(LBorrowedBeat$Score;I)I"⟩ ∈ uw := muw mT4 12 rfl rfl
set_option maxRecDepth 100000 in
theorem m817 : Cond.code ⟨"BorrowedBeat$Play", "perform", "(LBorrowedBeat$Score;I)I"⟩ prog_6_method_2_code 6 (Option.some ClassFile.FieldType.int) ∈ uw := muw mT4 13 rfl rfl
set_option maxRecDepth 100000 in
theorem m818 : Cond.methodLink "BorrowedBeat$Play" 24 ⟨"BorrowedBeat$Play", "open", "(LBorrowedBeat$Score;)V"⟩ ∈ uw := muw mT4 14 rfl rfl
set_option maxRecDepth 100000 in
theorem m820 : Cond.instanceMethod ⟨"BorrowedBeat$Play", "open", "(LBorrowedBeat$Score;)V"⟩ ∈ uw := muw mT4 16 rfl rfl
set_option maxRecDepth 100000 in
theorem m821 : Cond.code ⟨"BorrowedBeat$Play", "open", "(LBorrowedBeat$Score;)V"⟩ prog_6_method_3_code 3 none ∈ uw := muw mT4 17 rfl rfl
set_option maxRecDepth 100000 in
theorem m822 : Cond.methodLink "BorrowedBeat$Play" 32 ⟨"BorrowedBeat$Play", "goOn", "(LBorrowedBeat$Score;I)V"⟩ ∈ uw := muw mT4 18 rfl rfl
set_option maxRecDepth 100000 in
theorem m824 : Cond.instanceMethod ⟨"BorrowedBeat$Play", "goOn", "(LBorrowedBeat$Score;I)V"⟩ ∈ uw := muw mT4 20 rfl rfl
set_option maxRecDepth 100000 in
theorem m825 : Cond.code ⟨"BorrowedBeat$Play", "goOn", "(LBorrowedBeat$Score;I)V"⟩ prog_6_method_4_code 9 none ∈ uw := muw mT4 21 rfl rfl
set_option maxRecDepth 100000 in
theorem m826 : Cond.methodLink "BorrowedBeat$Play" 40 ⟨"java/lang/Math", "max", "(II)I"⟩ ∈ uw := muw mT4 22 rfl rfl
set_option maxRecDepth 100000 in
theorem m827 : Cond.static ⟨"java/lang/Math", "max", "(II)I"⟩ ∈ uw := muw mT4 23 rfl rfl
set_option maxRecDepth 100000 in
theorem m828 : Cond.code ⟨"java/lang/Math", "max", "(II)I"⟩ prog_19_method_65_code 2 (Option.some ClassFile.FieldType.int) ∈ uw := muw mT4 24 rfl rfl
set_option maxRecDepth 100000 in
theorem mn829 : Cond.methodLinkNest "BorrowedBeat$Play" 67 ⟨"BorrowedBeat", "held", "(III)I"⟩ "BorrowedBeat" ∈ nw := mnw mT4 25 rfl rfl
set_option maxRecDepth 100000 in
theorem m830 : Cond.methodLink "BorrowedBeat$Play" 36 ⟨"BorrowedBeat$Play", "playBar", "(LBorrowedBeat$Score;I)I"⟩ ∈ uw := muw mT4 26 rfl rfl
set_option maxRecDepth 100000 in
theorem m832 : Cond.instanceMethod ⟨"BorrowedBeat$Play", "playBar", "(LBorrowedBeat$Score;I)I"⟩ ∈ uw := muw mT4 28 rfl rfl
set_option maxRecDepth 100000 in
theorem m833 : Cond.code ⟨"BorrowedBeat$Play", "playBar", "(LBorrowedBeat$Score;I)I"⟩ prog_6_method_5_code 8 (Option.some ClassFile.FieldType.int) ∈ uw := muw mT4 29 rfl rfl
set_option maxRecDepth 100000 in
theorem m834 : Cond.constant "BorrowedBeat$Play" 71 1000000000 ∈ uw := muw mT4 30 rfl rfl
set_option maxRecDepth 100000 in
theorem m835 : Cond.methodLink "BorrowedBeat$Play" 75 ⟨"BorrowedBeat$Score", "isMarked", "(I)Z"⟩ ∈ uw := muw mT4 31 rfl rfl
set_option maxRecDepth 100000 in
theorem m836 : Cond.methodLink "BorrowedBeat$Play" 79 ⟨"java/util/Arrays", "fill", "([II)V"⟩ ∈ uw := muw mT4 32 rfl rfl
set_option maxRecDepth 100000 in
theorem m837 : Cond.methodLink "BorrowedBeat" 239 ⟨"BorrowedBeat$Play", "aheadOfWaiting", "(II)I"⟩ ∈ uw := muw mT4 33 rfl rfl
set_option maxRecDepth 100000 in
theorem m838 : Cond.instanceMethod ⟨"BorrowedBeat$Play", "aheadOfWaiting", "(II)I"⟩ ∈ uw := muw mT4 34 rfl rfl
set_option maxRecDepth 100000 in
theorem m839 : Cond.selects "BorrowedBeat$Play" ⟨"BorrowedBeat$Play", "aheadOfWaiting", "(II)I"⟩ ⟨"BorrowedBeat$Play", "aheadOfWaiting", "(II)I"⟩ ∈ uw := muw mT4 35 rfl rfl
set_option maxRecDepth 100000 in
theorem m840 : Cond.code ⟨"BorrowedBeat$Play", "aheadOfWaiting", "(II)I"⟩ prog_6_method_7_code 3 (Option.some ClassFile.FieldType.int) ∈ uw := muw mT4 36 rfl rfl
set_option maxRecDepth 100000 in
theorem m841 : Cond.methodLink "BorrowedBeat" 243 ⟨"BorrowedBeat$Play", "behindWaiting", "(II)I"⟩ ∈ uw := muw mT4 37 rfl rfl
set_option maxRecDepth 100000 in
theorem m842 : Cond.instanceMethod ⟨"BorrowedBeat$Play", "behindWaiting", "(II)I"⟩ ∈ uw := muw mT4 38 rfl rfl
set_option maxRecDepth 100000 in
theorem m843 : Cond.selects "BorrowedBeat$Play" ⟨"BorrowedBeat$Play", "behindWaiting", "(II)I"⟩ ⟨"BorrowedBeat$Play", "behindWaiting", "(II)I"⟩ ∈ uw := muw mT4 39 rfl rfl
set_option maxRecDepth 100000 in
theorem m844 : Cond.code ⟨"BorrowedBeat$Play", "behindWaiting", "(II)I"⟩ prog_6_method_8_code 3 (Option.some ClassFile.FieldType.int) ∈ uw := muw mT4 40 rfl rfl
set_option maxRecDepth 100000 in
theorem m845 : Cond.methodLink "BorrowedBeat$Play" 85 ⟨"BorrowedBeat$Play", "greatestIn", "(I)I"⟩ ∈ uw := muw mT4 41 rfl rfl
set_option maxRecDepth 100000 in
theorem m846 : Cond.instanceMethod ⟨"BorrowedBeat$Play", "greatestIn", "(I)I"⟩ ∈ uw := muw mT4 42 rfl rfl
set_option maxRecDepth 100000 in
theorem m847 : Cond.selects "BorrowedBeat$Play" ⟨"BorrowedBeat$Play", "greatestIn", "(I)I"⟩ ⟨"BorrowedBeat$Play", "greatestIn", "(I)I"⟩ ∈ uw := muw mT4 43 rfl rfl
set_option maxRecDepth 100000 in
theorem m848 : Cond.code ⟨"BorrowedBeat$Play", "greatestIn", "(I)I"⟩ prog_6_method_9_code 2 (Option.some ClassFile.FieldType.int) ∈ uw := muw mT4 44 rfl rfl
set_option maxRecDepth 100000 in
theorem m849 : Cond.methodLink "BorrowedBeat$Play" 92 ⟨"BorrowedBeat$Play", "lastIn", "(I)I"⟩ ∈ uw := muw mT4 45 rfl rfl
set_option maxRecDepth 100000 in
theorem m850 : Cond.instanceMethod ⟨"BorrowedBeat$Play", "lastIn", "(I)I"⟩ ∈ uw := muw mT4 46 rfl rfl
set_option maxRecDepth 100000 in
theorem m851 : Cond.selects "BorrowedBeat$Play" ⟨"BorrowedBeat$Play", "lastIn", "(I)I"⟩ ⟨"BorrowedBeat$Play", "lastIn", "(I)I"⟩ ∈ uw := muw mT4 47 rfl rfl
set_option maxRecDepth 100000 in
theorem m852 : Cond.code ⟨"BorrowedBeat$Play", "lastIn", "(I)I"⟩ prog_6_method_10_code 4 (Option.some ClassFile.FieldType.int) ∈ uw := muw mT4 48 rfl rfl
set_option maxRecDepth 100000 in
theorem m853 : Cond.methodLink "BorrowedBeat$Play" 89 ⟨"BorrowedBeat$Play", "aheadOfWaiting", "(II)I"⟩ ∈ uw := muw mT4 49 rfl rfl
set_option maxRecDepth 100000 in
theorem m854 : Cond.methodLink "BorrowedBeat" 246 ⟨"BorrowedBeat$Play", "beatIn", "(II)I"⟩ ∈ uw := muw mT4 50 rfl rfl
set_option maxRecDepth 100000 in
theorem m855 : Cond.instanceMethod ⟨"BorrowedBeat$Play", "beatIn", "(II)I"⟩ ∈ uw := muw mT4 51 rfl rfl
set_option maxRecDepth 100000 in
theorem m856 : Cond.selects "BorrowedBeat$Play" ⟨"BorrowedBeat$Play", "beatIn", "(II)I"⟩ ⟨"BorrowedBeat$Play", "beatIn", "(II)I"⟩ ∈ uw := muw mT4 52 rfl rfl
set_option maxRecDepth 100000 in
theorem m857 : Cond.code ⟨"BorrowedBeat$Play", "beatIn", "(II)I"⟩ prog_6_method_6_code 3 (Option.some ClassFile.FieldType.int) ∈ uw := muw mT4 53 rfl rfl
set_option maxRecDepth 100000 in
theorem m858 : Cond.methodLink "BorrowedBeatLaw" 77 ⟨"BorrowedBeat", "spread", "(I)I"⟩ ∈ uw := muw mT4 54 rfl rfl
set_option maxRecDepth 100000 in
theorem m859 : Cond.instanceMethod ⟨"BorrowedBeat", "spread", "(I)I"⟩ ∈ uw := muw mT4 55 rfl rfl
set_option maxRecDepth 100000 in
theorem m860 : Cond.selects "BorrowedBeat" ⟨"BorrowedBeat", "spread", "(I)I"⟩ ⟨"BorrowedBeat", "spread", "(I)I"⟩ ∈ uw := muw mT4 56 rfl rfl
set_option maxRecDepth 100000 in
theorem m861 : Cond.code ⟨"BorrowedBeat", "spread", "(I)I"⟩ prog_1_method_23_code 2 (Option.some ClassFile.FieldType.int) ∈ uw := muw mT4 57 rfl rfl
set_option maxRecDepth 100000 in
theorem m862 : Cond.methodLink "BorrowedBeatLaw" 81 ⟨"BorrowedBeat", "worst", "(I)I"⟩ ∈ uw := muw mT4 58 rfl rfl
set_option maxRecDepth 100000 in
theorem m863 : Cond.instanceMethod ⟨"BorrowedBeat", "worst", "(I)I"⟩ ∈ uw := muw mT4 59 rfl rfl
set_option maxRecDepth 100000 in
theorem m864 : Cond.selects "BorrowedBeat" ⟨"BorrowedBeat", "worst", "(I)I"⟩ ⟨"BorrowedBeat", "worst", "(I)I"⟩ ∈ uw := muw mT4 60 rfl rfl
set_option maxRecDepth 100000 in
theorem m865 : Cond.code ⟨"BorrowedBeat", "worst", "(I)I"⟩ prog_1_method_24_code 3 (Option.some ClassFile.FieldType.int) ∈ uw := muw mT4 61 rfl rfl
set_option maxRecDepth 100000 in
theorem m866 : Cond.methodLink "BorrowedBeat" 252 ⟨"BorrowedBeat", "isOneOfTwo", "(I)Z"⟩ ∈ uw := muw mT4 62 rfl rfl
set_option maxRecDepth 100000 in
theorem m868 : Cond.instanceMethod ⟨"BorrowedBeat", "isOneOfTwo", "(I)Z"⟩ ∈ uw := muw mT4 64 rfl rfl
set_option maxRecDepth 100000 in
theorem m869 : Cond.code ⟨"BorrowedBeat", "isOneOfTwo", "(I)Z"⟩ prog_1_method_15_code 2 (Option.some ClassFile.FieldType.boolean) ∈ uw := muw mT4 65 rfl rfl
set_option maxRecDepth 100000 in
theorem m870 : Cond.methodLink "BorrowedBeat" 255 ⟨"BorrowedBeat$Play", "firstSpreadAbove", "(I)I"⟩ ∈ uw := muw mT4 66 rfl rfl
set_option maxRecDepth 100000 in
theorem m871 : Cond.instanceMethod ⟨"BorrowedBeat$Play", "firstSpreadAbove", "(I)I"⟩ ∈ uw := muw mT4 67 rfl rfl
set_option maxRecDepth 100000 in
theorem m872 : Cond.selects "BorrowedBeat$Play" ⟨"BorrowedBeat$Play", "firstSpreadAbove", "(I)I"⟩ ⟨"BorrowedBeat$Play", "firstSpreadAbove", "(I)I"⟩ ∈ uw := muw mT4 68 rfl rfl
set_option maxRecDepth 100000 in
theorem m873 : Cond.code ⟨"BorrowedBeat$Play", "firstSpreadAbove", "(I)I"⟩ prog_6_method_12_code 3 (Option.some ClassFile.FieldType.int) ∈ uw := muw mT4 69 rfl rfl
set_option maxRecDepth 100000 in
theorem m874 : Cond.methodLink "BorrowedBeatLaw" 85 ⟨"BorrowedBeat", "parts", "()I"⟩ ∈ uw := muw mT4 70 rfl rfl
set_option maxRecDepth 100000 in
theorem m875 : Cond.instanceMethod ⟨"BorrowedBeat", "parts", "()I"⟩ ∈ uw := muw mT4 71 rfl rfl
set_option maxRecDepth 100000 in
theorem m876 : Cond.selects "BorrowedBeat" ⟨"BorrowedBeat", "parts", "()I"⟩ ⟨"BorrowedBeat", "parts", "()I"⟩ ∈ uw := muw mT4 72 rfl rfl
set_option maxRecDepth 100000 in
theorem m877 : Cond.code ⟨"BorrowedBeat", "parts", "()I"⟩ prog_1_method_25_code 1 (Option.some ClassFile.FieldType.int) ∈ uw := muw mT4 73 rfl rfl
set_option maxRecDepth 100000 in
theorem m878 : Cond.methodLink "BorrowedBeatLaw" 89 ⟨"BorrowedBeat", "last", "(I)I"⟩ ∈ uw := muw mT4 74 rfl rfl
set_option maxRecDepth 100000 in
theorem m879 : Cond.instanceMethod ⟨"BorrowedBeat", "last", "(I)I"⟩ ∈ uw := muw mT4 75 rfl rfl
set_option maxRecDepth 100000 in
theorem m880 : Cond.selects "BorrowedBeat" ⟨"BorrowedBeat", "last", "(I)I"⟩ ⟨"BorrowedBeat", "last", "(I)I"⟩ ∈ uw := muw mT4 76 rfl rfl
set_option maxRecDepth 100000 in
theorem m881 : Cond.code ⟨"BorrowedBeat", "last", "(I)I"⟩ prog_1_method_26_code 2 (Option.some ClassFile.FieldType.int) ∈ uw := muw mT4 77 rfl rfl
set_option maxRecDepth 100000 in
theorem m882 : Cond.methodLink "BorrowedBeat" 258 ⟨"BorrowedBeat$Play", "lastIn", "(I)I"⟩ ∈ uw := muw mT4 78 rfl rfl
set_option maxRecDepth 100000 in
theorem m883 : Cond.methodLink "BorrowedBeatLaw" 93 ⟨"BorrowedBeat", "settle", "(I)I"⟩ ∈ uw := muw mT4 79 rfl rfl
set_option maxRecDepth 100000 in
theorem m884 : Cond.instanceMethod ⟨"BorrowedBeat", "settle", "(I)I"⟩ ∈ uw := muw mT4 80 rfl rfl
set_option maxRecDepth 100000 in
theorem m885 : Cond.selects "BorrowedBeat" ⟨"BorrowedBeat", "settle", "(I)I"⟩ ⟨"BorrowedBeat", "settle", "(I)I"⟩ ∈ uw := muw mT4 81 rfl rfl
set_option maxRecDepth 100000 in
theorem m886 : Cond.code ⟨"BorrowedBeat", "settle", "(I)I"⟩ prog_1_method_27_code 2 (Option.some ClassFile.FieldType.int) ∈ uw := muw mT4 82 rfl rfl
set_option maxRecDepth 100000 in
theorem m887 : Cond.methodLink "BorrowedBeat" 261 ⟨"BorrowedBeat$Play", "settles", "(LBorrowedBeat$Score;)Z"⟩ ∈ uw := muw mT4 83 rfl rfl
set_option maxRecDepth 100000 in
theorem m888 : Cond.instanceMethod ⟨"BorrowedBeat$Play", "settles", "(LBorrowedBeat$Score;)Z"⟩ ∈ uw := muw mT4 84 rfl rfl
set_option maxRecDepth 100000 in
theorem m889 : Cond.selects "BorrowedBeat$Play" ⟨"BorrowedBeat$Play", "settles", "(LBorrowedBeat$Score;)Z"⟩ ⟨"BorrowedBeat$Play", "settles", "(LBorrowedBeat$Score;)Z"⟩ ∈ uw := muw mT4 85 rfl rfl
set_option maxRecDepth 100000 in
theorem m890 : Cond.code ⟨"BorrowedBeat$Play", "settles", "(LBorrowedBeat$Score;)Z"⟩ prog_6_method_20_code 4 (Option.some ClassFile.FieldType.boolean) ∈ uw := muw mT4 86 rfl rfl
set_option maxRecDepth 100000 in
theorem m891 : Cond.methodLink "BorrowedBeat$Play" 115 ⟨"BorrowedBeat$Play", "soundsLike", "(II)Z"⟩ ∈ uw := muw mT4 87 rfl rfl
set_option maxRecDepth 100000 in
theorem m893 : Cond.instanceMethod ⟨"BorrowedBeat$Play", "soundsLike", "(II)Z"⟩ ∈ uw := muw mT4 89 rfl rfl
set_option maxRecDepth 100000 in
theorem m894 : Cond.code ⟨"BorrowedBeat$Play", "soundsLike", "(II)Z"⟩ prog_6_method_21_code 7 (Option.some ClassFile.FieldType.boolean) ∈ uw := muw mT4 90 rfl rfl
set_option maxRecDepth 100000 in
theorem m895 : Cond.methodLink "BorrowedBeatLaw" 149 ⟨"BorrowedBeat", "place", "(II)I"⟩ ∈ uw := muw mT4 91 rfl rfl
set_option maxRecDepth 100000 in
theorem m896 : Cond.instanceMethod ⟨"BorrowedBeat", "place", "(II)I"⟩ ∈ uw := muw mT4 92 rfl rfl
set_option maxRecDepth 100000 in
theorem m897 : Cond.selects "BorrowedBeat" ⟨"BorrowedBeat", "place", "(II)I"⟩ ⟨"BorrowedBeat", "place", "(II)I"⟩ ∈ uw := muw mT4 93 rfl rfl
set_option maxRecDepth 100000 in
theorem m898 : Cond.code ⟨"BorrowedBeat", "place", "(II)I"⟩ prog_1_method_28_code 3 (Option.some ClassFile.FieldType.int) ∈ uw := muw mT4 94 rfl rfl
set_option maxRecDepth 100000 in
theorem m899 : Cond.methodLink "BorrowedBeat" 271 ⟨"BorrowedBeat$Play", "inPlace", "(II)I"⟩ ∈ uw := muw mT4 95 rfl rfl
set_option maxRecDepth 100000 in
theorem m900 : Cond.instanceMethod ⟨"BorrowedBeat$Play", "inPlace", "(II)I"⟩ ∈ uw := muw mT4 96 rfl rfl
set_option maxRecDepth 100000 in
theorem m901 : Cond.selects "BorrowedBeat$Play" ⟨"BorrowedBeat$Play", "inPlace", "(II)I"⟩ ⟨"BorrowedBeat$Play", "inPlace", "(II)I"⟩ ∈ uw := muw mT4 97 rfl rfl
set_option maxRecDepth 100000 in
theorem m902 : Cond.code ⟨"BorrowedBeat$Play", "inPlace", "(II)I"⟩ prog_6_method_13_code 4 (Option.some ClassFile.FieldType.int) ∈ uw := muw mT4 98 rfl rfl
set_option maxRecDepth 100000 in
theorem m903 : Cond.methodLink "BorrowedBeat$Play" 95 ⟨"BorrowedBeat$Play", "placeOf", "(II)I"⟩ ∈ uw := muw mT4 99 rfl rfl
set_option maxRecDepth 100000 in
theorem m905 : Cond.instanceMethod ⟨"BorrowedBeat$Play", "placeOf", "(II)I"⟩ ∈ uw := muw mT4 101 rfl rfl
set_option maxRecDepth 100000 in
theorem m906 : Cond.code ⟨"BorrowedBeat$Play", "placeOf", "(II)I"⟩ prog_6_method_14_code 7 (Option.some ClassFile.FieldType.int) ∈ uw := muw mT4 102 rfl rfl
set_option maxRecDepth 100000 in
theorem m907 : Cond.methodLink "BorrowedBeatLaw" 153 ⟨"BorrowedBeat", "overtakes", "(II)I"⟩ ∈ uw := muw mT4 103 rfl rfl
set_option maxRecDepth 100000 in
theorem m908 : Cond.instanceMethod ⟨"BorrowedBeat", "overtakes", "(II)I"⟩ ∈ uw := muw mT4 104 rfl rfl
set_option maxRecDepth 100000 in
theorem m909 : Cond.selects "BorrowedBeat" ⟨"BorrowedBeat", "overtakes", "(II)I"⟩ ⟨"BorrowedBeat", "overtakes", "(II)I"⟩ ∈ uw := muw mT4 105 rfl rfl
set_option maxRecDepth 100000 in
theorem m910 : Cond.code ⟨"BorrowedBeat", "overtakes", "(II)I"⟩ prog_1_method_29_code 3 (Option.some ClassFile.FieldType.int) ∈ uw := muw mT4 106 rfl rfl
set_option maxRecDepth 100000 in
theorem m911 : Cond.methodLink "BorrowedBeat" 274 ⟨"BorrowedBeat$Play", "turns", "(II)I"⟩ ∈ uw := muw mT4 107 rfl rfl
set_option maxRecDepth 100000 in
theorem m912 : Cond.instanceMethod ⟨"BorrowedBeat$Play", "turns", "(II)I"⟩ ∈ uw := muw mT4 108 rfl rfl
set_option maxRecDepth 100000 in
theorem m913 : Cond.selects "BorrowedBeat$Play" ⟨"BorrowedBeat$Play", "turns", "(II)I"⟩ ⟨"BorrowedBeat$Play", "turns", "(II)I"⟩ ∈ uw := muw mT4 109 rfl rfl
set_option maxRecDepth 100000 in
theorem m914 : Cond.code ⟨"BorrowedBeat$Play", "turns", "(II)I"⟩ prog_6_method_15_code 7 (Option.some ClassFile.FieldType.int) ∈ uw := muw mT4 110 rfl rfl
set_option maxRecDepth 100000 in
theorem m915 : Cond.methodLink "BorrowedBeat$Play" 98 ⟨"BorrowedBeat$Play", "order", "(III)I"⟩ ∈ uw := muw mT4 111 rfl rfl
set_option maxRecDepth 100000 in
theorem m917 : Cond.instanceMethod ⟨"BorrowedBeat$Play", "order", "(III)I"⟩ ∈ uw := muw mT4 113 rfl rfl
set_option maxRecDepth 100000 in
theorem m918 : Cond.code ⟨"BorrowedBeat$Play", "order", "(III)I"⟩ prog_6_method_16_code 4 (Option.some ClassFile.FieldType.int) ∈ uw := muw mT4 114 rfl rfl
set_option maxRecDepth 100000 in
theorem m919 : Cond.methodLink "BorrowedBeat$Play" 101 ⟨"java/lang/Integer", "compare", "(II)I"⟩ ∈ uw := muw mT4 115 rfl rfl
set_option maxRecDepth 100000 in
theorem m920 : Cond.static ⟨"java/lang/Integer", "compare", "(II)I"⟩ ∈ uw := muw mT4 116 rfl rfl
set_option maxRecDepth 100000 in
theorem m921 : Cond.code ⟨"java/lang/Integer", "compare", "(II)I"⟩ prog_18_method_40_code 2 (Option.some ClassFile.FieldType.int) ∈ uw := muw mT4 117 rfl rfl
set_option maxRecDepth 100000 in
theorem m922 : Cond.methodLink "BorrowedBeatLaw" 157 ⟨"BorrowedBeat", "middle", "()I"⟩ ∈ uw := muw mT4 118 rfl rfl
set_option maxRecDepth 100000 in
theorem m923 : Cond.instanceMethod ⟨"BorrowedBeat", "middle", "()I"⟩ ∈ uw := muw mT4 119 rfl rfl
set_option maxRecDepth 100000 in
theorem m924 : Cond.selects "BorrowedBeat" ⟨"BorrowedBeat", "middle", "()I"⟩ ⟨"BorrowedBeat", "middle", "()I"⟩ ∈ uw := muw mT4 120 rfl rfl
set_option maxRecDepth 100000 in
theorem m925 : Cond.code ⟨"BorrowedBeat", "middle", "()I"⟩ prog_1_method_30_code 1 (Option.some ClassFile.FieldType.int) ∈ uw := muw mT4 121 rfl rfl
set_option maxRecDepth 100000 in
theorem m926 : Cond.methodLink "BorrowedBeat" 277 ⟨"BorrowedBeat$Play", "innermost", "()I"⟩ ∈ uw := muw mT4 122 rfl rfl
set_option maxRecDepth 100000 in
theorem m927 : Cond.instanceMethod ⟨"BorrowedBeat$Play", "innermost", "()I"⟩ ∈ uw := muw mT4 123 rfl rfl
set_option maxRecDepth 100000 in
theorem m928 : Cond.selects "BorrowedBeat$Play" ⟨"BorrowedBeat$Play", "innermost", "()I"⟩ ⟨"BorrowedBeat$Play", "innermost", "()I"⟩ ∈ uw := muw mT4 124 rfl rfl
set_option maxRecDepth 100000 in
theorem m929 : Cond.code ⟨"BorrowedBeat$Play", "innermost", "()I"⟩ prog_6_method_17_code 5 (Option.some ClassFile.FieldType.int) ∈ uw := muw mT4 125 rfl rfl
set_option maxRecDepth 100000 in
theorem m930 : Cond.methodLink "BorrowedBeat$Play" 106 ⟨"BorrowedBeat$Play", "apartFromAll", "(II)I"⟩ ∈ uw := muw mT4 126 rfl rfl
set_option maxRecDepth 100000 in
theorem m932 : Cond.instanceMethod ⟨"BorrowedBeat$Play", "apartFromAll", "(II)I"⟩ ∈ uw := muw mT4 128 rfl rfl
set_option maxRecDepth 100000 in
theorem m933 : Cond.code ⟨"BorrowedBeat$Play", "apartFromAll", "(II)I"⟩ prog_6_method_18_code 5 (Option.some ClassFile.FieldType.int) ∈ uw := muw mT4 129 rfl rfl
set_option maxRecDepth 100000 in
theorem m934 : Cond.methodLink "BorrowedBeat$Play" 109 ⟨"java/lang/Math", "abs", "(I)I"⟩ ∈ uw := muw mT4 130 rfl rfl
set_option maxRecDepth 100000 in
theorem m935 : Cond.static ⟨"java/lang/Math", "abs", "(I)I"⟩ ∈ uw := muw mT4 131 rfl rfl
set_option maxRecDepth 100000 in
theorem m936 : Cond.code ⟨"java/lang/Math", "abs", "(I)I"⟩ prog_19_method_59_code 1 (Option.some ClassFile.FieldType.int) ∈ uw := muw mT4 132 rfl rfl
set_option maxRecDepth 100000 in
theorem m937 : Cond.methodLink "BorrowedBeatLaw" 161 ⟨"BorrowedBeat", "ends", "(I)I"⟩ ∈ uw := muw mT4 133 rfl rfl
set_option maxRecDepth 100000 in
theorem m938 : Cond.instanceMethod ⟨"BorrowedBeat", "ends", "(I)I"⟩ ∈ uw := muw mT4 134 rfl rfl
set_option maxRecDepth 100000 in
theorem m939 : Cond.selects "BorrowedBeat" ⟨"BorrowedBeat", "ends", "(I)I"⟩ ⟨"BorrowedBeat", "ends", "(I)I"⟩ ∈ uw := muw mT4 135 rfl rfl
set_option maxRecDepth 100000 in
theorem m940 : Cond.code ⟨"BorrowedBeat", "ends", "(I)I"⟩ prog_1_method_31_code 4 (Option.some ClassFile.FieldType.int) ∈ uw := muw mT4 136 rfl rfl
set_option maxRecDepth 100000 in
theorem m941 : Cond.methodLink "BorrowedBeat" 280 ⟨"BorrowedBeat$Play", "greatestIn", "(I)I"⟩ ∈ uw := muw mT4 137 rfl rfl
set_option maxRecDepth 100000 in
theorem m942 : Cond.methodLink "BorrowedBeatLaw" 165 ⟨"BorrowedBeat", "stray", "(II)I"⟩ ∈ uw := muw mT4 138 rfl rfl
set_option maxRecDepth 100000 in
theorem m943 : Cond.instanceMethod ⟨"BorrowedBeat", "stray", "(II)I"⟩ ∈ uw := muw mT4 139 rfl rfl
set_option maxRecDepth 100000 in
theorem m944 : Cond.selects "BorrowedBeat" ⟨"BorrowedBeat", "stray", "(II)I"⟩ ⟨"BorrowedBeat", "stray", "(II)I"⟩ ∈ uw := muw mT4 140 rfl rfl
set_option maxRecDepth 100000 in
theorem m945 : Cond.code ⟨"BorrowedBeat", "stray", "(II)I"⟩ prog_1_method_32_code 3 (Option.some ClassFile.FieldType.int) ∈ uw := muw mT4 141 rfl rfl
set_option maxRecDepth 100000 in
theorem m946 : Cond.methodLink "BorrowedBeat" 283 ⟨"BorrowedBeat$Play", "firstChange", "(II)I"⟩ ∈ uw := muw mT4 142 rfl rfl
set_option maxRecDepth 100000 in
theorem m947 : Cond.instanceMethod ⟨"BorrowedBeat$Play", "firstChange", "(II)I"⟩ ∈ uw := muw mT4 143 rfl rfl
set_option maxRecDepth 100000 in
theorem m948 : Cond.selects "BorrowedBeat$Play" ⟨"BorrowedBeat$Play", "firstChange", "(II)I"⟩ ⟨"BorrowedBeat$Play", "firstChange", "(II)I"⟩ ∈ uw := muw mT4 144 rfl rfl
set_option maxRecDepth 100000 in
theorem m949 : Cond.code ⟨"BorrowedBeat$Play", "firstChange", "(II)I"⟩ prog_6_method_19_code 4 (Option.some ClassFile.FieldType.int) ∈ uw := muw mT4 145 rfl rfl
set_option maxRecDepth 100000 in
theorem m950 : Cond.methodLink "BorrowedBeat$Play" 112 ⟨"BorrowedBeat$Play", "beatIn", "(II)I"⟩ ∈ uw := muw mT4 146 rfl rfl
set_option maxRecDepth 100000 in
theorem m951 : Cond.methodLink "BorrowedBeatLaw" 97 ⟨"BorrowedBeat", "ring", "(I)I"⟩ ∈ uw := muw mT4 147 rfl rfl
set_option maxRecDepth 100000 in
theorem m952 : Cond.instanceMethod ⟨"BorrowedBeat", "ring", "(I)I"⟩ ∈ uw := muw mT4 148 rfl rfl
set_option maxRecDepth 100000 in
theorem m953 : Cond.selects "BorrowedBeat" ⟨"BorrowedBeat", "ring", "(I)I"⟩ ⟨"BorrowedBeat", "ring", "(I)I"⟩ ∈ uw := muw mT4 149 rfl rfl
set_option maxRecDepth 100000 in
theorem m954 : Cond.code ⟨"BorrowedBeat", "ring", "(I)I"⟩ prog_1_method_33_code 5 (Option.some ClassFile.FieldType.int) ∈ uw := muw mT4 150 rfl rfl
set_option maxRecDepth 100000 in
theorem m955 : Cond.methodLink "BorrowedBeat" 286 ⟨"BorrowedBeat$Score", "aheadOf", "(II)I"⟩ ∈ uw := muw mT4 151 rfl rfl
set_option maxRecDepth 100000 in
theorem m956 : Cond.instanceMethod ⟨"BorrowedBeat$Score", "aheadOf", "(II)I"⟩ ∈ uw := muw mT4 152 rfl rfl
set_option maxRecDepth 100000 in
theorem m957 : Cond.selects "BorrowedBeat$Score" ⟨"BorrowedBeat$Score", "aheadOf", "(II)I"⟩ ⟨"BorrowedBeat$Score", "aheadOf", "(II)I"⟩ ∈ uw := muw mT4 153 rfl rfl
set_option maxRecDepth 100000 in
theorem m958 : Cond.code ⟨"BorrowedBeat$Score", "aheadOf", "(II)I"⟩ prog_8_method_5_code 5 (Option.some ClassFile.FieldType.int) ∈ uw := muw mT4 154 rfl rfl
set_option maxRecDepth 100000 in
theorem m959 : Cond.methodLink "BorrowedBeatLaw" 101 ⟨"BorrowedBeat", "head", "(I)I"⟩ ∈ uw := muw mT4 155 rfl rfl
set_option maxRecDepth 100000 in
theorem m960 : Cond.instanceMethod ⟨"BorrowedBeat", "head", "(I)I"⟩ ∈ uw := muw mT4 156 rfl rfl
set_option maxRecDepth 100000 in
theorem m961 : Cond.selects "BorrowedBeat" ⟨"BorrowedBeat", "head", "(I)I"⟩ ⟨"BorrowedBeat", "head", "(I)I"⟩ ∈ uw := muw mT4 157 rfl rfl
set_option maxRecDepth 100000 in
theorem m962 : Cond.code ⟨"BorrowedBeat", "head", "(I)I"⟩ prog_1_method_34_code 4 (Option.some ClassFile.FieldType.int) ∈ uw := muw mT4 158 rfl rfl
set_option maxRecDepth 100000 in
theorem m963 : Cond.methodLink "BorrowedBeatLaw" 109 ⟨"BorrowedBeat", "leader", "(II)I"⟩ ∈ uw := muw mT4 159 rfl rfl
set_option maxRecDepth 100000 in
theorem m964 : Cond.instanceMethod ⟨"BorrowedBeat", "leader", "(II)I"⟩ ∈ uw := muw mT4 160 rfl rfl
set_option maxRecDepth 100000 in
theorem m965 : Cond.selects "BorrowedBeat" ⟨"BorrowedBeat", "leader", "(II)I"⟩ ⟨"BorrowedBeat", "leader", "(II)I"⟩ ∈ uw := muw mT4 161 rfl rfl
set_option maxRecDepth 100000 in
theorem m966 : Cond.code ⟨"BorrowedBeat", "leader", "(II)I"⟩ prog_1_method_35_code 7 (Option.some ClassFile.FieldType.int) ∈ uw := muw mT4 162 rfl rfl
set_option maxRecDepth 100000 in
theorem m967 : Cond.methodLink "BorrowedBeat" 289 ⟨"BorrowedBeat$Score", "copyFrom", "(LBorrowedBeat$Score;)V"⟩ ∈ uw := muw mT4 163 rfl rfl
set_option maxRecDepth 100000 in
theorem m968 : Cond.instanceMethod ⟨"BorrowedBeat$Score", "copyFrom", "(LBorrowedBeat$Score;)V"⟩ ∈ uw := muw mT4 164 rfl rfl
set_option maxRecDepth 100000 in
theorem m969 : Cond.selects "BorrowedBeat$Score" ⟨"BorrowedBeat$Score", "copyFrom", "(LBorrowedBeat$Score;)V"⟩ ⟨"BorrowedBeat$Score", "copyFrom", "(LBorrowedBeat$Score;)V"⟩ ∈ uw := muw mT4 165 rfl rfl
set_option maxRecDepth 100000 in
theorem m970 : Cond.code ⟨"BorrowedBeat$Score", "copyFrom", "(LBorrowedBeat$Score;)V"⟩ prog_8_method_3_code 2 none ∈ uw := muw mT4 166 rfl rfl
set_option maxRecDepth 100000 in
theorem m971 : Cond.methodLink "BorrowedBeatLaw" 133 ⟨"BorrowedBeat", "deaf", "(I)I"⟩ ∈ uw := muw mT4 167 rfl rfl
set_option maxRecDepth 100000 in
theorem m972 : Cond.instanceMethod ⟨"BorrowedBeat", "deaf", "(I)I"⟩ ∈ uw := muw mT4 168 rfl rfl
set_option maxRecDepth 100000 in
theorem m973 : Cond.selects "BorrowedBeat" ⟨"BorrowedBeat", "deaf", "(I)I"⟩ ⟨"BorrowedBeat", "deaf", "(I)I"⟩ ∈ uw := muw mT4 169 rfl rfl
set_option maxRecDepth 100000 in
theorem m974 : Cond.code ⟨"BorrowedBeat", "deaf", "(I)I"⟩ prog_1_method_36_code 2 (Option.some ClassFile.FieldType.int) ∈ uw := muw mT4 170 rfl rfl
set_option maxRecDepth 100000 in
theorem m975 : Cond.methodLink "BorrowedBeatLaw" 125 ⟨"BorrowedBeat", "roll", "(III)I"⟩ ∈ uw := muw mT4 171 rfl rfl
set_option maxRecDepth 100000 in
theorem m976 : Cond.instanceMethod ⟨"BorrowedBeat", "roll", "(III)I"⟩ ∈ uw := muw mT4 172 rfl rfl
set_option maxRecDepth 100000 in
theorem m977 : Cond.selects "BorrowedBeat" ⟨"BorrowedBeat", "roll", "(III)I"⟩ ⟨"BorrowedBeat", "roll", "(III)I"⟩ ∈ uw := muw mT4 173 rfl rfl
set_option maxRecDepth 100000 in
theorem m978 : Cond.code ⟨"BorrowedBeat", "roll", "(III)I"⟩ prog_1_method_37_code 6 (Option.some ClassFile.FieldType.int) ∈ uw := muw mT4 174 rfl rfl
set_option maxRecDepth 100000 in
theorem m979 : Cond.methodLink "BorrowedBeatLaw" 129 ⟨"BorrowedBeat", "fits", "(I)I"⟩ ∈ uw := muw mT4 175 rfl rfl
set_option maxRecDepth 100000 in
theorem m980 : Cond.instanceMethod ⟨"BorrowedBeat", "fits", "(I)I"⟩ ∈ uw := muw mT4 176 rfl rfl
set_option maxRecDepth 100000 in
theorem m981 : Cond.selects "BorrowedBeat" ⟨"BorrowedBeat", "fits", "(I)I"⟩ ⟨"BorrowedBeat", "fits", "(I)I"⟩ ∈ uw := muw mT4 177 rfl rfl
set_option maxRecDepth 100000 in
theorem m982 : Cond.code ⟨"BorrowedBeat", "fits", "(I)I"⟩ prog_1_method_38_code 4 (Option.some ClassFile.FieldType.int) ∈ uw := muw mT4 178 rfl rfl
set_option maxRecDepth 100000 in
theorem m983 : Cond.methodLink "BorrowedBeat" 292 ⟨"BorrowedBeat", "isToldSo", "()Z"⟩ ∈ uw := muw mT4 179 rfl rfl
set_option maxRecDepth 100000 in
theorem m985 : Cond.instanceMethod ⟨"BorrowedBeat", "isToldSo", "()Z"⟩ ∈ uw := muw mT4 181 rfl rfl
set_option maxRecDepth 100000 in
theorem m986 : Cond.code ⟨"BorrowedBeat", "isToldSo", "()Z"⟩ prog_1_method_39_code 4 (Option.some ClassFile.FieldType.boolean) ∈ uw := muw mT4 182 rfl rfl
set_option maxRecDepth 100000 in
theorem m987 : Cond.methodLink "BorrowedBeatLaw" 137 ⟨"BorrowedBeat", "echoes", "(I)I"⟩ ∈ uw := muw mT4 183 rfl rfl
set_option maxRecDepth 100000 in
theorem m988 : Cond.instanceMethod ⟨"BorrowedBeat", "echoes", "(I)I"⟩ ∈ uw := muw mT4 184 rfl rfl
set_option maxRecDepth 100000 in
theorem m989 : Cond.selects "BorrowedBeat" ⟨"BorrowedBeat", "echoes", "(I)I"⟩ ⟨"BorrowedBeat", "echoes", "(I)I"⟩ ∈ uw := muw mT4 185 rfl rfl
set_option maxRecDepth 100000 in
theorem m990 : Cond.code ⟨"BorrowedBeat", "echoes", "(I)I"⟩ prog_1_method_40_code 6 (Option.some ClassFile.FieldType.int) ∈ uw := muw mT4 186 rfl rfl
set_option maxRecDepth 100000 in
theorem m991 : Cond.methodLink "BorrowedBeatLaw" 145 ⟨"BorrowedBeat", "tune", "(II)I"⟩ ∈ uw := muw mT4 187 rfl rfl
set_option maxRecDepth 100000 in
theorem m992 : Cond.instanceMethod ⟨"BorrowedBeat", "tune", "(II)I"⟩ ∈ uw := muw mT4 188 rfl rfl
set_option maxRecDepth 100000 in
theorem m993 : Cond.selects "BorrowedBeat" ⟨"BorrowedBeat", "tune", "(II)I"⟩ ⟨"BorrowedBeat", "tune", "(II)I"⟩ ∈ uw := muw mT4 189 rfl rfl
set_option maxRecDepth 100000 in
theorem m994 : Cond.code ⟨"BorrowedBeat", "tune", "(II)I"⟩ prog_1_method_41_code 7 (Option.some ClassFile.FieldType.int) ∈ uw := muw mT4 190 rfl rfl
set_option maxRecDepth 100000 in
theorem m995 : Cond.methodLink "BorrowedBeatLaw" 121 ⟨"BorrowedBeat", "paid", "(I)I"⟩ ∈ uw := muw mT4 191 rfl rfl
set_option maxRecDepth 100000 in
theorem m996 : Cond.instanceMethod ⟨"BorrowedBeat", "paid", "(I)I"⟩ ∈ uw := muw mT4 192 rfl rfl
set_option maxRecDepth 100000 in
theorem m997 : Cond.selects "BorrowedBeat" ⟨"BorrowedBeat", "paid", "(I)I"⟩ ⟨"BorrowedBeat", "paid", "(I)I"⟩ ∈ uw := muw mT4 193 rfl rfl
set_option maxRecDepth 100000 in
theorem m998 : Cond.code ⟨"BorrowedBeat", "paid", "(I)I"⟩ prog_1_method_42_code 4 (Option.some ClassFile.FieldType.int) ∈ uw := muw mT4 194 rfl rfl
set_option maxRecDepth 100000 in
theorem m999 : Cond.methodLink "BorrowedBeat" 296 ⟨"BorrowedBeat$Play", "isAloneLast", "(II)Z"⟩ ∈ uw := muw mT4 195 rfl rfl
set_option maxRecDepth 100000 in
theorem m1000 : Cond.instanceMethod ⟨"BorrowedBeat$Play", "isAloneLast", "(II)Z"⟩ ∈ uw := muw mT4 196 rfl rfl
set_option maxRecDepth 100000 in
theorem m1001 : Cond.selects "BorrowedBeat$Play" ⟨"BorrowedBeat$Play", "isAloneLast", "(II)Z"⟩ ⟨"BorrowedBeat$Play", "isAloneLast", "(II)Z"⟩ ∈ uw := muw mT4 197 rfl rfl
set_option maxRecDepth 100000 in
theorem m1002 : Cond.code ⟨"BorrowedBeat$Play", "isAloneLast", "(II)Z"⟩ prog_6_method_11_code 4 (Option.some ClassFile.FieldType.boolean) ∈ uw := muw mT4 198 rfl rfl
set_option maxRecDepth 100000 in
theorem m1003 : Cond.methodLink "BorrowedBeatLaw" 113 ⟨"BorrowedBeat", "marks", "(I)I"⟩ ∈ uw := muw mT4 199 rfl rfl
set_option maxRecDepth 100000 in
theorem m1004 : Cond.instanceMethod ⟨"BorrowedBeat", "marks", "(I)I"⟩ ∈ uw := muw mT4 200 rfl rfl
set_option maxRecDepth 100000 in
theorem m1005 : Cond.selects "BorrowedBeat" ⟨"BorrowedBeat", "marks", "(I)I"⟩ ⟨"BorrowedBeat", "marks", "(I)I"⟩ ∈ uw := muw mT4 201 rfl rfl
set_option maxRecDepth 100000 in
theorem m1006 : Cond.code ⟨"BorrowedBeat", "marks", "(I)I"⟩ prog_1_method_43_code 2 (Option.some ClassFile.FieldType.int) ∈ uw := muw mT4 202 rfl rfl
set_option maxRecDepth 100000 in
theorem m1007 : Cond.methodLink "BorrowedBeat" 300 ⟨"BorrowedBeat$MarkSearch", "find", "(LBorrowedBeat$Play;LBorrowedBeat$Score;I)Z"⟩ ∈ uw := muw mT4 203 rfl rfl
set_option maxRecDepth 100000 in
theorem m1008 : Cond.instanceMethod ⟨"BorrowedBeat$MarkSearch", "find", "(LBorrowedBeat$Play;LBorrowedBeat$Score;I)Z"⟩ ∈ uw := muw mT4 204 rfl rfl
set_option maxRecDepth 100000 in
theorem m1009 : Cond.selects "BorrowedBeat$MarkSearch" ⟨"BorrowedBeat$MarkSearch", "find", "(LBorrowedBeat$Play;LBorrowedBeat$Score;I)Z"⟩ ⟨"BorrowedBeat$MarkSearch", "find", "(LBorrowedBeat$Play;LBorrowedBeat$Score;I)Z"⟩ ∈ uw := muw mT4 205 rfl rfl
set_option maxRecDepth 100000 in
theorem m1010 : Cond.code ⟨"BorrowedBeat$MarkSearch", "find", "(LBorrowedBeat$Play;LBorrowedBeat$Score;I)Z"⟩ prog_5_method_2_code 5 (Option.some ClassFile.FieldType.boolean) ∈ uw := muw mT4 206 rfl rfl
set_option maxRecDepth 100000 in
theorem m1011 : Cond.constant "BorrowedBeat$MarkSearch" 21 1000000000 ∈ uw := muw mT4 207 rfl rfl
set_option maxRecDepth 100000 in
theorem m1012 : Cond.methodLink "BorrowedBeat$MarkSearch" 22 ⟨"java/util/Arrays", "fill", "([II)V"⟩ ∈ uw := muw mT4 208 rfl rfl
set_option maxRecDepth 100000 in
theorem m1013 : Cond.methodLink "BorrowedBeat$MarkSearch" 40 ⟨"BorrowedBeat$MarkSearch", "goOnFrom", "(ILBorrowedBeat$Play;LBorrowedBeat$Score;I)V"⟩ ∈ uw := muw mT4 209 rfl rfl
set_option maxRecDepth 100000 in
theorem m1015 : Cond.instanceMethod ⟨"BorrowedBeat$MarkSearch", "goOnFrom", "(ILBorrowedBeat$Play;LBorrowedBeat$Score;I)V"⟩ ∈ uw := muw mT4 211 rfl rfl
set_option maxRecDepth 100000 in
theorem m1016 : Cond.code ⟨"BorrowedBeat$MarkSearch", "goOnFrom", "(ILBorrowedBeat$Play;LBorrowedBeat$Score;I)V"⟩ prog_5_method_3_code 6 none ∈ uw := muw mT4 212 rfl rfl
set_option maxRecDepth 100000 in
theorem m1017 : Cond.methodLink "BorrowedBeat$MarkSearch" 44 ⟨"BorrowedBeat$MarkSearch", "spreadBehind", "(ILBorrowedBeat$Play;LBorrowedBeat$Score;)I"⟩ ∈ uw := muw mT4 213 rfl rfl
set_option maxRecDepth 100000 in
theorem m1019 : Cond.instanceMethod ⟨"BorrowedBeat$MarkSearch", "spreadBehind", "(ILBorrowedBeat$Play;LBorrowedBeat$Score;)I"⟩ ∈ uw := muw mT4 215 rfl rfl
set_option maxRecDepth 100000 in
theorem m1020 : Cond.code ⟨"BorrowedBeat$MarkSearch", "spreadBehind", "(ILBorrowedBeat$Play;LBorrowedBeat$Score;)I"⟩ prog_5_method_4_code 7 (Option.some ClassFile.FieldType.int) ∈ uw := muw mT4 216 rfl rfl
set_option maxRecDepth 100000 in
theorem m1021 : Cond.methodLink "BorrowedBeat$MarkSearch" 59 ⟨"BorrowedBeat$Play", "beatIn", "(II)I"⟩ ∈ uw := muw mT4 217 rfl rfl
set_option maxRecDepth 100000 in
theorem m1022 : Cond.methodLink "BorrowedBeat$MarkSearch" 68 ⟨"java/lang/Math", "max", "(II)I"⟩ ∈ uw := muw mT4 218 rfl rfl
set_option maxRecDepth 100000 in
theorem m1023 : Cond.methodLink "BorrowedBeat$MarkSearch" 73 ⟨"java/lang/Math", "min", "(II)I"⟩ ∈ uw := muw mT4 219 rfl rfl
set_option maxRecDepth 100000 in
theorem m1024 : Cond.methodLink "BorrowedBeat$MarkSearch" 48 ⟨"BorrowedBeat$MarkSearch", "endBetter", "(II)V"⟩ ∈ uw := muw mT4 220 rfl rfl
set_option maxRecDepth 100000 in
theorem m1026 : Cond.instanceMethod ⟨"BorrowedBeat$MarkSearch", "endBetter", "(II)V"⟩ ∈ uw := muw mT4 222 rfl rfl
set_option maxRecDepth 100000 in
theorem m1027 : Cond.code ⟨"BorrowedBeat$MarkSearch", "endBetter", "(II)V"⟩ prog_5_method_5_code 3 none ∈ uw := muw mT4 223 rfl rfl
set_option maxRecDepth 100000 in
theorem m1028 : Cond.methodLink "BorrowedBeat$MarkSearch" 52 ⟨"BorrowedBeat$MarkSearch", "markBetter", "(III)V"⟩ ∈ uw := muw mT4 224 rfl rfl
set_option maxRecDepth 100000 in
theorem m1030 : Cond.instanceMethod ⟨"BorrowedBeat$MarkSearch", "markBetter", "(III)V"⟩ ∈ uw := muw mT4 226 rfl rfl
set_option maxRecDepth 100000 in
theorem m1031 : Cond.code ⟨"BorrowedBeat$MarkSearch", "markBetter", "(III)V"⟩ prog_5_method_6_code 4 none ∈ uw := muw mT4 227 rfl rfl
set_option maxRecDepth 100000 in
theorem m1032 : Cond.methodLink "BorrowedBeatLaw" 105 ⟨"BorrowedBeat", "week", "(I)I"⟩ ∈ uw := muw mT4 228 rfl rfl
set_option maxRecDepth 100000 in
theorem m1033 : Cond.instanceMethod ⟨"BorrowedBeat", "week", "(I)I"⟩ ∈ uw := muw mT4 229 rfl rfl
set_option maxRecDepth 100000 in
theorem m1034 : Cond.selects "BorrowedBeat" ⟨"BorrowedBeat", "week", "(I)I"⟩ ⟨"BorrowedBeat", "week", "(I)I"⟩ ∈ uw := muw mT4 230 rfl rfl
set_option maxRecDepth 100000 in
theorem m1035 : Cond.code ⟨"BorrowedBeat", "week", "(I)I"⟩ prog_1_method_44_code 3 (Option.some ClassFile.FieldType.int) ∈ uw := muw mT4 231 rfl rfl
set_option maxRecDepth 100000 in
theorem m1036 : Cond.methodLink "BorrowedBeat" 313 ⟨"BorrowedBeat$WeekSearch", "find", "(LBorrowedBeat$Town;LBorrowedBeat$Score;)V"⟩ ∈ uw := muw mT4 232 rfl rfl
set_option maxRecDepth 100000 in
theorem m1037 : Cond.instanceMethod ⟨"BorrowedBeat$WeekSearch", "find", "(LBorrowedBeat$Town;LBorrowedBeat$Score;)V"⟩ ∈ uw := muw mT4 233 rfl rfl
set_option maxRecDepth 100000 in
theorem m1038 : Cond.selects "BorrowedBeat$WeekSearch" ⟨"BorrowedBeat$WeekSearch", "find", "(LBorrowedBeat$Town;LBorrowedBeat$Score;)V"⟩ ⟨"BorrowedBeat$WeekSearch", "find", "(LBorrowedBeat$Town;LBorrowedBeat$Score;)V"⟩ ∈ uw := muw mT4 234 rfl rfl
set_option maxRecDepth 100000 in
theorem m1039 : Cond.code ⟨"BorrowedBeat$WeekSearch", "find", "(LBorrowedBeat$Town;LBorrowedBeat$Score;)V"⟩ prog_12_method_2_code 4 none ∈ uw := muw mT4 235 rfl rfl
set_option maxRecDepth 100000 in
theorem m1040 : Cond.methodLink "BorrowedBeat$WeekSearch" 26 ⟨"BorrowedBeat$Score", "copyFrom", "(LBorrowedBeat$Score;)V"⟩ ∈ uw := muw mT4 236 rfl rfl
set_option maxRecDepth 100000 in
theorem m1041 : Cond.methodLink "BorrowedBeat$WeekSearch" 32 ⟨"BorrowedBeat$WeekSearch", "foresee", "(LBorrowedBeat$Town;LBorrowedBeat$Score;)V"⟩ ∈ uw := muw mT4 237 rfl rfl
set_option maxRecDepth 100000 in
theorem m1043 : Cond.instanceMethod ⟨"BorrowedBeat$WeekSearch", "foresee", "(LBorrowedBeat$Town;LBorrowedBeat$Score;)V"⟩ ∈ uw := muw mT4 239 rfl rfl
set_option maxRecDepth 100000 in
theorem m1044 : Cond.code ⟨"BorrowedBeat$WeekSearch", "foresee", "(LBorrowedBeat$Town;LBorrowedBeat$Score;)V"⟩ prog_12_method_3_code 7 none ∈ uw := muw mT5 0 rfl rfl
set_option maxRecDepth 100000 in
theorem m1045 : Cond.methodLink "BorrowedBeat$WeekSearch" 43 ⟨"BorrowedBeat$WeekSearch", "slot", "(II)I"⟩ ∈ uw := muw mT5 1 rfl rfl
set_option maxRecDepth 100000 in
theorem m1046 : Cond.static ⟨"BorrowedBeat$WeekSearch", "slot", "(II)I"⟩ ∈ uw := muw mT5 2 rfl rfl
set_option maxRecDepth 100000 in
theorem m1047 : Cond.code ⟨"BorrowedBeat$WeekSearch", "slot", "(II)I"⟩ prog_12_method_4_code 2 (Option.some ClassFile.FieldType.int) ∈ uw := muw mT5 3 rfl rfl
set_option maxRecDepth 100000 in
theorem m1048 : Cond.methodLink "BorrowedBeat$WeekSearch" 68 ⟨"BorrowedBeat$Town", "drifted", "(IIII)I"⟩ ∈ uw := muw mT5 4 rfl rfl
set_option maxRecDepth 100000 in
theorem m1049 : Cond.constant "BorrowedBeat$WeekSearch" 47 1000000000 ∈ uw := muw mT5 5 rfl rfl
set_option maxRecDepth 100000 in
theorem m1050 : Cond.methodLink "BorrowedBeat$WeekSearch" 54 ⟨"BorrowedBeat$WeekSearch", "choose", "(LBorrowedBeat$WeekSearch;IIII)V"⟩ ∈ uw := muw mT5 6 rfl rfl
set_option maxRecDepth 100000 in
theorem m1051 : Cond.static ⟨"BorrowedBeat$WeekSearch", "choose", "(LBorrowedBeat$WeekSearch;IIII)V"⟩ ∈ uw := muw mT5 7 rfl rfl
set_option maxRecDepth 100000 in
theorem m1052 : Cond.code ⟨"BorrowedBeat$WeekSearch", "choose", "(LBorrowedBeat$WeekSearch;IIII)V"⟩ prog_12_method_5_code 9 none ∈ uw := muw mT5 8 rfl rfl
set_option maxRecDepth 100000 in
theorem m1053 : Cond.methodLink "BorrowedBeat$WeekSearch" 72 ⟨"BorrowedBeat$WeekSearch", "weigh", "(I)V"⟩ ∈ uw := muw mT5 9 rfl rfl
set_option maxRecDepth 100000 in
theorem m1055 : Cond.instanceMethod ⟨"BorrowedBeat$WeekSearch", "weigh", "(I)V"⟩ ∈ uw := muw mT5 11 rfl rfl
set_option maxRecDepth 100000 in
theorem m1056 : Cond.code ⟨"BorrowedBeat$WeekSearch", "weigh", "(I)V"⟩ prog_12_method_6_code 4 none ∈ uw := muw mT5 12 rfl rfl
set_option maxRecDepth 100000 in
theorem m1057 : Cond.methodLink "BorrowedBeat$WeekSearch" 76 ⟨"BorrowedBeat$Play", "perform", "(LBorrowedBeat$Score;I)I"⟩ ∈ uw := muw mT5 13 rfl rfl
set_option maxRecDepth 100000 in
theorem m1058 : Cond.methodLink "BorrowedBeatLaw" 141 ⟨"BorrowedBeat", "gift", "(I)I"⟩ ∈ uw := muw mT5 14 rfl rfl
set_option maxRecDepth 100000 in
theorem m1059 : Cond.instanceMethod ⟨"BorrowedBeat", "gift", "(I)I"⟩ ∈ uw := muw mT5 15 rfl rfl
set_option maxRecDepth 100000 in
theorem m1060 : Cond.selects "BorrowedBeat" ⟨"BorrowedBeat", "gift", "(I)I"⟩ ⟨"BorrowedBeat", "gift", "(I)I"⟩ ∈ uw := muw mT5 16 rfl rfl
set_option maxRecDepth 100000 in
theorem m1061 : Cond.code ⟨"BorrowedBeat", "gift", "(I)I"⟩ prog_1_method_45_code 7 (Option.some ClassFile.FieldType.int) ∈ uw := muw mT5 17 rfl rfl
set_option maxRecDepth 100000 in
theorem m1062 : Cond.methodLink "BorrowedBeat" 322 ⟨"java/lang/System", "arraycopy", "(Ljava/lang/Object;ILjava/lang/Object;II)V"⟩ ∈ uw := muw mT5 18 rfl rfl
set_option maxRecDepth 100000 in
theorem m1063 : Cond.methodLink "BorrowedBeatLaw" 117 ⟨"BorrowedBeat", "odds", "(II)I"⟩ ∈ uw := muw mT5 19 rfl rfl
set_option maxRecDepth 100000 in
theorem m1064 : Cond.instanceMethod ⟨"BorrowedBeat", "odds", "(II)I"⟩ ∈ uw := muw mT5 20 rfl rfl
set_option maxRecDepth 100000 in
theorem m1065 : Cond.selects "BorrowedBeat" ⟨"BorrowedBeat", "odds", "(II)I"⟩ ⟨"BorrowedBeat", "odds", "(II)I"⟩ ∈ uw := muw mT5 21 rfl rfl
set_option maxRecDepth 100000 in
theorem m1066 : Cond.code ⟨"BorrowedBeat", "odds", "(II)I"⟩ prog_1_method_46_code 6 (Option.some ClassFile.FieldType.int) ∈ uw := muw mT5 22 rfl rfl
set_option maxRecDepth 100000 in
theorem m1067 : Cond.methodLink "BorrowedBeat" 328 ⟨"BorrowedBeat$Town", "drifted", "(IIII)I"⟩ ∈ uw := muw mT5 23 rfl rfl
set_option maxRecDepth 100000 in
theorem m1068 : Cond.methodLink "BorrowedBeat" 332 ⟨"BorrowedBeat", "rowsWithSum", "(II)I"⟩ ∈ uw := muw mT5 24 rfl rfl
set_option maxRecDepth 100000 in
theorem m1069 : Cond.static ⟨"BorrowedBeat", "rowsWithSum", "(II)I"⟩ ∈ uw := muw mT5 25 rfl rfl
set_option maxRecDepth 100000 in
theorem m1070 : Cond.code ⟨"BorrowedBeat", "rowsWithSum", "(II)I"⟩ prog_1_method_47_code 2 (Option.some ClassFile.FieldType.int) ∈ uw := muw mT5 26 rfl rfl
set_option maxRecDepth 100000 in
theorem m1071 : Cond.methodLink "BorrowedBeatLaw" 177 ⟨"BorrowedBeat", "count", "(I)I"⟩ ∈ uw := muw mT5 27 rfl rfl
set_option maxRecDepth 100000 in
theorem m1072 : Cond.instanceMethod ⟨"BorrowedBeat", "count", "(I)I"⟩ ∈ uw := muw mT5 28 rfl rfl
set_option maxRecDepth 100000 in
theorem m1073 : Cond.selects "BorrowedBeat" ⟨"BorrowedBeat", "count", "(I)I"⟩ ⟨"BorrowedBeat", "count", "(I)I"⟩ ∈ uw := muw mT5 29 rfl rfl
set_option maxRecDepth 100000 in
theorem m1074 : Cond.code ⟨"BorrowedBeat", "count", "(I)I"⟩ prog_1_method_48_code 2 (Option.some ClassFile.FieldType.int) ∈ uw := muw mT5 30 rfl rfl
set_option maxRecDepth 100000 in
theorem m1075 : Cond.methodLink "BorrowedBeatLaw" 38 ⟨"BorrowedBeatLaw", "player", "(LBorrowedBeat;II[J)I"⟩ ∈ uw := muw mT5 31 rfl rfl
set_option maxRecDepth 100000 in
theorem m1079 : Cond.methodLink "BorrowedBeatLaw" 7 ⟨"BorrowedBeat", "player", "(II)I"⟩ ∈ uw := muw mT5 35 rfl rfl
set_option maxRecDepth 100000 in
theorem m1080 : Cond.instanceMethod ⟨"BorrowedBeat", "player", "(II)I"⟩ ∈ uw := muw mT5 36 rfl rfl
set_option maxRecDepth 100000 in
theorem m1081 : Cond.selects "BorrowedBeat" ⟨"BorrowedBeat", "player", "(II)I"⟩ ⟨"BorrowedBeat", "player", "(II)I"⟩ ∈ uw := muw mT5 37 rfl rfl
set_option maxRecDepth 100000 in
theorem m1082 : Cond.code ⟨"BorrowedBeat", "player", "(II)I"⟩ prog_1_method_7_code 3 (Option.some ClassFile.FieldType.int) ∈ uw := muw mT5 38 rfl rfl
set_option maxRecDepth 100000 in
theorem m1083 : Cond.classLink "BorrowedBeat" 151 "java/util/NoSuchElementException" ∈ uw := muw mT5 39 rfl rfl
set_option maxRecDepth 100000 in
theorem m1084 : Cond.instantiable "java/util/NoSuchElementException" 6 ∈ uw := muw mT5 40 rfl rfl
set_option maxRecDepth 100000 in
theorem m1108 : Cond.methodLink "java/lang/Throwable" 1 ⟨"java/lang/Object", "<init>", "()V"⟩ ∈ uw := muw mT5 64 rfl rfl
set_option maxRecDepth 100000 in
theorem m1120 : Cond.instantiable "java/lang/Throwable" 6 ∈ uw := muw mT5 76 rfl rfl
set_option maxRecDepth 100000 in
theorem m1121 : Cond.native ⟨"java/lang/Throwable", "fillInStackTrace", "(I)Ljava/lang/Throwable;"⟩ ∈ uw := muw mT5 77 rfl rfl
set_option maxRecDepth 100000 in
theorem m1123 : Cond.methodLink "BorrowedBeat" 155 ⟨"java/util/NoSuchElementException", "<init>", "(Ljava/lang/String;)V"⟩ ∈ uw := muw mT5 79 rfl rfl
set_option maxRecDepth 100000 in
theorem m1148 : Cond.arrayClass ClassFile.FieldType.byte ∈ uw := muw mT5 104 rfl rfl
set_option maxRecDepth 100000 in
theorem m1150 : Cond.classLink "BorrowedBeatLaw" 16 "BorrowedBeatModel" ∈ uw := muw mT5 106 rfl rfl
set_option maxRecDepth 100000 in
theorem m1151 : Cond.instantiable "BorrowedBeatModel" 50 ∈ uw := muw mT5 107 rfl rfl
set_option maxRecDepth 100000 in
theorem m1152 : Cond.methodLink "BorrowedBeatLaw" 18 ⟨"BorrowedBeatModel", "<init>", "()V"⟩ ∈ uw := muw mT5 108 rfl rfl
set_option maxRecDepth 100000 in
theorem m1153 : Cond.instanceMethod ⟨"BorrowedBeatModel", "<init>", "()V"⟩ ∈ uw := muw mT5 109 rfl rfl
set_option maxRecDepth 100000 in
theorem m1154 : Cond.code ⟨"BorrowedBeatModel", "<init>", "()V"⟩ prog_14_method_3_code 1 none ∈ uw := muw mT5 110 rfl rfl
set_option maxRecDepth 100000 in
theorem m1155 : Cond.methodLink "BorrowedBeatModel" 3 ⟨"java/lang/Object", "<init>", "()V"⟩ ∈ uw := muw mT5 111 rfl rfl
set_option maxRecDepth 100000 in
theorem m1156 : Cond.fieldLink "BorrowedBeatModel" 101 "BorrowedBeatModel" "thrown" "I" ∈ uw := muw mT5 112 rfl rfl
set_option maxRecDepth 100000 in
theorem m1157 : Cond.fieldLink "BorrowedBeatModel" 9 "BorrowedBeatModel" "tape" "[I" ∈ uw := muw mT5 113 rfl rfl
set_option maxRecDepth 100000 in
theorem m1158 : Cond.fieldLink "BorrowedBeatModel" 108 "BorrowedBeatModel" "size" "I" ∈ uw := muw mT5 114 rfl rfl
set_option maxRecDepth 100000 in
theorem m1159 : Cond.fieldLink "BorrowedBeatModel" 111 "BorrowedBeatModel" "at" "I" ∈ uw := muw mT5 115 rfl rfl
set_option maxRecDepth 100000 in
theorem m1160 : Cond.fieldLink "BorrowedBeatModel" 118 "BorrowedBeatModel" "wrong" "I" ∈ uw := muw mT5 116 rfl rfl
set_option maxRecDepth 100000 in
theorem m1161 : Cond.fieldLink "BorrowedBeatModel" 124 "BorrowedBeatModel" "deep" "I" ∈ uw := muw mT5 117 rfl rfl
set_option maxRecDepth 100000 in
theorem m1162 : Cond.fieldLink "BorrowedBeatModel" 13 "BorrowedBeatModel" "code" "[I" ∈ uw := muw mT5 118 rfl rfl
set_option maxRecDepth 100000 in
theorem m1163 : Cond.fieldLink "BorrowedBeatModel" 16 "BorrowedBeatModel" "value" "[I" ∈ uw := muw mT5 119 rfl rfl
set_option maxRecDepth 100000 in
theorem m1164 : Cond.fieldLink "BorrowedBeatModel" 19 "BorrowedBeatModel" "codes" "[I" ∈ uw := muw mT5 120 rfl rfl
set_option maxRecDepth 100000 in
theorem m1165 : Cond.fieldLink "BorrowedBeatModel" 22 "BorrowedBeatModel" "clauses" "[I" ∈ uw := muw mT5 121 rfl rfl
set_option maxRecDepth 100000 in
theorem m1166 : Cond.fieldLink "BorrowedBeatModel" 25 "BorrowedBeatModel" "testFrom" "[I" ∈ uw := muw mT5 122 rfl rfl
set_option maxRecDepth 100000 in
theorem m1167 : Cond.fieldLink "BorrowedBeatModel" 28 "BorrowedBeatModel" "sumFrom" "[I" ∈ uw := muw mT5 123 rfl rfl
set_option maxRecDepth 100000 in
theorem m1168 : Cond.fieldLink "BorrowedBeatModel" 31 "BorrowedBeatModel" "sumTo" "[I" ∈ uw := muw mT5 124 rfl rfl
set_option maxRecDepth 100000 in
theorem m1169 : Cond.fieldLink "BorrowedBeatModel" 278 "BorrowedBeatModel" "laws" "I" ∈ uw := muw mT5 125 rfl rfl
set_option maxRecDepth 100000 in
theorem m1170 : Cond.fieldLink "BorrowedBeatModel" 121 "BorrowedBeatModel" "text" "I" ∈ uw := muw mT5 126 rfl rfl
set_option maxRecDepth 100000 in
theorem m1171 : Cond.fieldLink "BorrowedBeatModel" 34 "BorrowedBeatModel" "letters" "[I" ∈ uw := muw mT5 127 rfl rfl
set_option maxRecDepth 100000 in
theorem m1172 : Cond.fieldLink "BorrowedBeatModel" 37 "BorrowedBeatModel" "stack" "[I" ∈ uw := muw mT5 128 rfl rfl
set_option maxRecDepth 100000 in
theorem m1173 : Cond.fieldLink "BorrowedBeatModel" 40 "BorrowedBeatModel" "readRow" "[I" ∈ uw := muw mT5 129 rfl rfl
set_option maxRecDepth 100000 in
theorem m1174 : Cond.fieldLink "BorrowedBeatModel" 220 "BorrowedBeatModel" "readPlayers" "I" ∈ uw := muw mT5 130 rfl rfl
set_option maxRecDepth 100000 in
theorem m1175 : Cond.fieldLink "BorrowedBeatModel" 237 "BorrowedBeatModel" "readMetronome" "I" ∈ uw := muw mT5 131 rfl rfl
set_option maxRecDepth 100000 in
theorem m1176 : Cond.fieldLink "BorrowedBeatModel" 43 "BorrowedBeatModel" "row" "[I" ∈ uw := muw mT5 132 rfl rfl
set_option maxRecDepth 100000 in
theorem m1177 : Cond.fieldLink "BorrowedBeatModel" 253 "BorrowedBeatModel" "players" "I" ∈ uw := muw mT5 133 rfl rfl
set_option maxRecDepth 100000 in
theorem m1178 : Cond.fieldLink "BorrowedBeatModel" 256 "BorrowedBeatModel" "metronome" "I" ∈ uw := muw mT5 134 rfl rfl
set_option maxRecDepth 100000 in
theorem m1179 : Cond.fieldLink "BorrowedBeatModel" 46 "BorrowedBeatModel" "beats" "[I" ∈ uw := muw mT5 135 rfl rfl
set_option maxRecDepth 100000 in
theorem m1180 : Cond.fieldLink "BorrowedBeatModel" 49 "BorrowedBeatModel" "late" "[I" ∈ uw := muw mT5 136 rfl rfl
set_option maxRecDepth 100000 in
theorem m1181 : Cond.fieldLink "BorrowedBeatModel" 259 "BorrowedBeatModel" "day" "I" ∈ uw := muw mT5 137 rfl rfl
set_option maxRecDepth 100000 in
theorem m1182 : Cond.fieldLink "BorrowedBeatModel" 265 "BorrowedBeatModel" "marks" "I" ∈ uw := muw mT5 138 rfl rfl
set_option maxRecDepth 100000 in
theorem m1183 : Cond.fieldLink "BorrowedBeatModel" 52 "BorrowedBeatModel" "holding" "I" ∈ uw := muw mT5 139 rfl rfl
set_option maxRecDepth 100000 in
theorem m1184 : Cond.fieldLink "BorrowedBeatModel" 56 "BorrowedBeatModel" "bars" "I" ∈ uw := muw mT5 140 rfl rfl
set_option maxRecDepth 100000 in
theorem m1185 : Cond.fieldLink "BorrowedBeatModel" 287 "BorrowedBeatModel" "echo" "I" ∈ uw := muw mT5 141 rfl rfl
set_option maxRecDepth 100000 in
theorem m1186 : Cond.fieldLink "BorrowedBeatModel" 59 "BorrowedBeatModel" "limit" "I" ∈ uw := muw mT5 142 rfl rfl
set_option maxRecDepth 100000 in
theorem m1187 : Cond.fieldLink "BorrowedBeatModel" 62 "BorrowedBeatModel" "kept" "[I" ∈ uw := muw mT5 143 rfl rfl
set_option maxRecDepth 100000 in
theorem m1188 : Cond.fieldLink "BorrowedBeatModel" 262 "BorrowedBeatModel" "acts" "I" ∈ uw := muw mT5 144 rfl rfl
set_option maxRecDepth 100000 in
theorem m1189 : Cond.fieldLink "BorrowedBeatModel" 65 "BorrowedBeatModel" "beatAt" "[I" ∈ uw := muw mT5 145 rfl rfl
set_option maxRecDepth 100000 in
theorem m1190 : Cond.fieldLink "BorrowedBeatModel" 68 "BorrowedBeatModel" "timeAt" "[I" ∈ uw := muw mT5 146 rfl rfl
set_option maxRecDepth 100000 in
theorem m1191 : Cond.fieldLink "BorrowedBeatModel" 71 "BorrowedBeatModel" "waitAt" "[I" ∈ uw := muw mT5 147 rfl rfl
set_option maxRecDepth 100000 in
theorem m1192 : Cond.fieldLink "BorrowedBeatModel" 74 "BorrowedBeatModel" "weekBeats" "[I" ∈ uw := muw mT5 148 rfl rfl
set_option maxRecDepth 100000 in
theorem m1193 : Cond.fieldLink "BorrowedBeatModel" 77 "BorrowedBeatModel" "weekDamp" "[I" ∈ uw := muw mT5 149 rfl rfl
set_option maxRecDepth 100000 in
theorem m1194 : Cond.fieldLink "BorrowedBeatModel" 330 "BorrowedBeatModel" "weekRow" "I" ∈ uw := muw mT5 150 rfl rfl
set_option maxRecDepth 100000 in
theorem m1195 : Cond.fieldLink "BorrowedBeatModel" 333 "BorrowedBeatModel" "weekLeast" "I" ∈ uw := muw mT5 151 rfl rfl
set_option maxRecDepth 100000 in
theorem m1196 : Cond.fieldLink "BorrowedBeatModel" 80 "BorrowedBeatModel" "fewFrom" "[I" ∈ uw := muw mT5 152 rfl rfl
set_option maxRecDepth 100000 in
theorem m1197 : Cond.fieldLink "BorrowedBeatModel" 83 "BorrowedBeatModel" "bitsFrom" "[I" ∈ uw := muw mT5 153 rfl rfl
set_option maxRecDepth 100000 in
theorem m1198 : Cond.fieldLink "BorrowedBeatModel" 86 "BorrowedBeatModel" "sums" "[I" ∈ uw := muw mT5 154 rfl rfl
set_option maxRecDepth 100000 in
theorem m1199 : Cond.fieldLink "BorrowedBeatModel" 89 "BorrowedBeatModel" "rollPlayer" "[I" ∈ uw := muw mT5 155 rfl rfl
set_option maxRecDepth 100000 in
theorem m1200 : Cond.fieldLink "BorrowedBeatModel" 92 "BorrowedBeatModel" "rollBar" "[I" ∈ uw := muw mT5 156 rfl rfl
set_option maxRecDepth 100000 in
theorem m1201 : Cond.fieldLink "BorrowedBeatModel" 95 "BorrowedBeatModel" "rollTime" "[I" ∈ uw := muw mT5 157 rfl rfl
set_option maxRecDepth 100000 in
theorem m1202 : Cond.fieldLink "BorrowedBeatModel" 268 "BorrowedBeatModel" "rolls" "I" ∈ uw := muw mT5 158 rfl rfl
set_option maxRecDepth 100000 in
theorem m1203 : Cond.fieldLink "BorrowedBeatModel" 98 "BorrowedBeatModel" "imageBeats" "[I" ∈ uw := muw mT5 159 rfl rfl
set_option maxRecDepth 100000 in
theorem m1204 : Cond.fieldLink "BorrowedBeatModel" 368 "BorrowedBeatModel" "imageDay" "I" ∈ uw := muw mT5 160 rfl rfl
set_option maxRecDepth 100000 in
theorem m1205 : Cond.fieldLink "BorrowedBeatModel" 271 "BorrowedBeatModel" "hasImage" "Z" ∈ uw := muw mT5 161 rfl rfl
set_option maxRecDepth 100000 in
theorem m1307 : Cond.methodLink "BorrowedBeatLaw" 23 ⟨"BorrowedBeatModel", "feed", "(IIIII)I"⟩ ∈ uw := muw mT6 23 rfl rfl
set_option maxRecDepth 100000 in
theorem m1308 : Cond.instanceMethod ⟨"BorrowedBeatModel", "feed", "(IIIII)I"⟩ ∈ uw := muw mT6 24 rfl rfl
set_option maxRecDepth 100000 in
theorem m1309 : Cond.selects "BorrowedBeatModel" ⟨"BorrowedBeatModel", "feed", "(IIIII)I"⟩ ⟨"BorrowedBeatModel", "feed", "(IIIII)I"⟩ ∈ uw := muw mT6 25 rfl rfl
set_option maxRecDepth 100000 in
theorem m1310 : Cond.code ⟨"BorrowedBeatModel", "feed", "(IIIII)I"⟩ prog_14_method_6_code 9 (Option.some ClassFile.FieldType.int) ∈ uw := muw mT6 26 rfl rfl
set_option maxRecDepth 100000 in
theorem m1311 : Cond.methodLink "BorrowedBeatModel" 104 ⟨"BorrowedBeatModel", "byteOf", "(IIIIII)I"⟩ ∈ uw := muw mT6 27 rfl rfl
set_option maxRecDepth 100000 in
theorem m1312 : Cond.static ⟨"BorrowedBeatModel", "byteOf", "(IIIIII)I"⟩ ∈ uw := muw mT6 28 rfl rfl
set_option maxRecDepth 100000 in
theorem m1313 : Cond.code ⟨"BorrowedBeatModel", "byteOf", "(IIIIII)I"⟩ prog_14_method_5_code 7 (Option.some ClassFile.FieldType.int) ∈ uw := muw mT6 29 rfl rfl
set_option maxRecDepth 100000 in
theorem m1314 : Cond.methodLink "BorrowedBeatLaw" 28 ⟨"BorrowedBeatModel", "end", "(I)Z"⟩ ∈ uw := muw mT6 30 rfl rfl
set_option maxRecDepth 100000 in
theorem m1315 : Cond.instanceMethod ⟨"BorrowedBeatModel", "end", "(I)Z"⟩ ∈ uw := muw mT6 31 rfl rfl
set_option maxRecDepth 100000 in
theorem m1316 : Cond.selects "BorrowedBeatModel" ⟨"BorrowedBeatModel", "end", "(I)Z"⟩ ⟨"BorrowedBeatModel", "end", "(I)Z"⟩ ∈ uw := muw mT6 32 rfl rfl
set_option maxRecDepth 100000 in
theorem m1317 : Cond.code ⟨"BorrowedBeatModel", "end", "(I)Z"⟩ prog_14_method_7_code 2 (Option.some ClassFile.FieldType.boolean) ∈ uw := muw mT6 33 rfl rfl
set_option maxRecDepth 100000 in
theorem m1318 : Cond.methodLink "BorrowedBeatLaw" 33 ⟨"BorrowedBeatModel", "fault", "(I)I"⟩ ∈ uw := muw mT6 34 rfl rfl
set_option maxRecDepth 100000 in
theorem m1319 : Cond.instanceMethod ⟨"BorrowedBeatModel", "fault", "(I)I"⟩ ∈ uw := muw mT6 35 rfl rfl
set_option maxRecDepth 100000 in
theorem m1320 : Cond.selects "BorrowedBeatModel" ⟨"BorrowedBeatModel", "fault", "(I)I"⟩ ⟨"BorrowedBeatModel", "fault", "(I)I"⟩ ∈ uw := muw mT6 36 rfl rfl
set_option maxRecDepth 100000 in
theorem m1321 : Cond.code ⟨"BorrowedBeatModel", "fault", "(I)I"⟩ prog_14_method_40_code 2 (Option.some ClassFile.FieldType.int) ∈ uw := muw mT6 37 rfl rfl
set_option maxRecDepth 100000 in
theorem m1322 : Cond.methodLink "BorrowedBeatModel" 247 ⟨"BorrowedBeatModel", "readTown", "()I"⟩ ∈ uw := muw mT6 38 rfl rfl
set_option maxRecDepth 100000 in
theorem m1324 : Cond.instanceMethod ⟨"BorrowedBeatModel", "readTown", "()I"⟩ ∈ uw := muw mT6 40 rfl rfl
set_option maxRecDepth 100000 in
theorem m1325 : Cond.code ⟨"BorrowedBeatModel", "readTown", "()I"⟩ prog_14_method_39_code 4 (Option.some ClassFile.FieldType.int) ∈ uw := muw mT6 41 rfl rfl
set_option maxRecDepth 100000 in
theorem m1326 : Cond.methodLink "BorrowedBeatModel" 130 ⟨"BorrowedBeatModel", "look", "()I"⟩ ∈ uw := muw mT6 42 rfl rfl
set_option maxRecDepth 100000 in
theorem m1328 : Cond.instanceMethod ⟨"BorrowedBeatModel", "look", "()I"⟩ ∈ uw := muw mT6 44 rfl rfl
set_option maxRecDepth 100000 in
theorem m1329 : Cond.code ⟨"BorrowedBeatModel", "look", "()I"⟩ prog_14_method_9_code 1 (Option.some ClassFile.FieldType.int) ∈ uw := muw mT6 45 rfl rfl
set_option maxRecDepth 100000 in
theorem m1330 : Cond.methodLink "BorrowedBeatModel" 114 ⟨"BorrowedBeatModel", "here", "()I"⟩ ∈ uw := muw mT6 46 rfl rfl
set_option maxRecDepth 100000 in
theorem m1332 : Cond.instanceMethod ⟨"BorrowedBeatModel", "here", "()I"⟩ ∈ uw := muw mT6 48 rfl rfl
set_option maxRecDepth 100000 in
theorem m1333 : Cond.code ⟨"BorrowedBeatModel", "here", "()I"⟩ prog_14_method_8_code 1 (Option.some ClassFile.FieldType.int) ∈ uw := muw mT6 49 rfl rfl
set_option maxRecDepth 100000 in
theorem m1334 : Cond.methodLink "BorrowedBeatModel" 240 ⟨"BorrowedBeatModel", "playerText", "()V"⟩ ∈ uw := muw mT6 50 rfl rfl
set_option maxRecDepth 100000 in
theorem m1336 : Cond.instanceMethod ⟨"BorrowedBeatModel", "playerText", "()V"⟩ ∈ uw := muw mT6 52 rfl rfl
set_option maxRecDepth 100000 in
theorem m1337 : Cond.code ⟨"BorrowedBeatModel", "playerText", "()V"⟩ prog_14_method_37_code 4 none ∈ uw := muw mT6 53 rfl rfl
set_option maxRecDepth 100000 in
theorem m1338 : Cond.methodLink "BorrowedBeatModel" 127 ⟨"BorrowedBeatModel", "bad", "()V"⟩ ∈ uw := muw mT6 54 rfl rfl
set_option maxRecDepth 100000 in
theorem m1340 : Cond.instanceMethod ⟨"BorrowedBeatModel", "bad", "()V"⟩ ∈ uw := muw mT6 56 rfl rfl
set_option maxRecDepth 100000 in
theorem m1341 : Cond.code ⟨"BorrowedBeatModel", "bad", "()V"⟩ prog_14_method_10_code 1 none ∈ uw := muw mT6 57 rfl rfl
set_option maxRecDepth 100000 in
theorem m1342 : Cond.methodLink "BorrowedBeatModel" 223 ⟨"BorrowedBeatModel", "itemOf", "(I)I"⟩ ∈ uw := muw mT6 58 rfl rfl
set_option maxRecDepth 100000 in
theorem m1343 : Cond.static ⟨"BorrowedBeatModel", "itemOf", "(I)I"⟩ ∈ uw := muw mT6 59 rfl rfl
set_option maxRecDepth 100000 in
theorem m1344 : Cond.code ⟨"BorrowedBeatModel", "itemOf", "(I)I"⟩ prog_14_method_35_code 1 (Option.some ClassFile.FieldType.int) ∈ uw := muw mT6 60 rfl rfl
set_option maxRecDepth 100000 in
theorem m1345 : Cond.methodLink "BorrowedBeatModel" 226 ⟨"BorrowedBeatModel", "has", "(II)Z"⟩ ∈ uw := muw mT6 61 rfl rfl
set_option maxRecDepth 100000 in
theorem m1346 : Cond.static ⟨"BorrowedBeatModel", "has", "(II)Z"⟩ ∈ uw := muw mT6 62 rfl rfl
set_option maxRecDepth 100000 in
theorem m1347 : Cond.code ⟨"BorrowedBeatModel", "has", "(II)Z"⟩ prog_14_method_2_code 2 (Option.some ClassFile.FieldType.boolean) ∈ uw := muw mT6 63 rfl rfl
set_option maxRecDepth 100000 in
theorem m1348 : Cond.methodLink "BorrowedBeatModel" 230 ⟨"BorrowedBeatModel", "highest", "(I)I"⟩ ∈ uw := muw mT6 64 rfl rfl
set_option maxRecDepth 100000 in
theorem m1349 : Cond.static ⟨"BorrowedBeatModel", "highest", "(I)I"⟩ ∈ uw := muw mT6 65 rfl rfl
set_option maxRecDepth 100000 in
theorem m1350 : Cond.code ⟨"BorrowedBeatModel", "highest", "(I)I"⟩ prog_14_method_36_code 1 (Option.some ClassFile.FieldType.int) ∈ uw := muw mT6 66 rfl rfl
set_option maxRecDepth 100000 in
theorem m1351 : Cond.methodLink "BorrowedBeatModel" 233 ⟨"BorrowedBeatModel", "number", "(II)I"⟩ ∈ uw := muw mT6 67 rfl rfl
set_option maxRecDepth 100000 in
theorem m1353 : Cond.instanceMethod ⟨"BorrowedBeatModel", "number", "(II)I"⟩ ∈ uw := muw mT6 69 rfl rfl
set_option maxRecDepth 100000 in
theorem m1354 : Cond.code ⟨"BorrowedBeatModel", "number", "(II)I"⟩ prog_14_method_34_code 4 (Option.some ClassFile.FieldType.int) ∈ uw := muw mT6 70 rfl rfl
set_option maxRecDepth 100000 in
theorem m1355 : Cond.methodLink "BorrowedBeatModel" 133 ⟨"BorrowedBeatModel", "isDigit", "(I)Z"⟩ ∈ uw := muw mT6 71 rfl rfl
set_option maxRecDepth 100000 in
theorem m1356 : Cond.static ⟨"BorrowedBeatModel", "isDigit", "(I)Z"⟩ ∈ uw := muw mT6 72 rfl rfl
set_option maxRecDepth 100000 in
theorem m1357 : Cond.code ⟨"BorrowedBeatModel", "isDigit", "(I)Z"⟩ prog_14_method_11_code 1 (Option.some ClassFile.FieldType.boolean) ∈ uw := muw mT6 73 rfl rfl
set_option maxRecDepth 100000 in
theorem m1358 : Cond.methodLink "BorrowedBeatModel" 216 ⟨"BorrowedBeatModel", "in", "(III)Z"⟩ ∈ uw := muw mT6 74 rfl rfl
set_option maxRecDepth 100000 in
theorem m1359 : Cond.static ⟨"BorrowedBeatModel", "in", "(III)Z"⟩ ∈ uw := muw mT6 75 rfl rfl
set_option maxRecDepth 100000 in
theorem m1360 : Cond.code ⟨"BorrowedBeatModel", "in", "(III)Z"⟩ prog_14_method_1_code 3 (Option.some ClassFile.FieldType.boolean) ∈ uw := muw mT6 76 rfl rfl
set_option maxRecDepth 100000 in
theorem m1361 : Cond.methodLink "BorrowedBeatModel" 243 ⟨"BorrowedBeatModel", "areTold", "()Z"⟩ ∈ uw := muw mT6 77 rfl rfl
set_option maxRecDepth 100000 in
theorem m1363 : Cond.instanceMethod ⟨"BorrowedBeatModel", "areTold", "()Z"⟩ ∈ uw := muw mT6 79 rfl rfl
set_option maxRecDepth 100000 in
theorem m1364 : Cond.code ⟨"BorrowedBeatModel", "areTold", "()Z"⟩ prog_14_method_38_code 3 (Option.some ClassFile.FieldType.boolean) ∈ uw := muw mT6 80 rfl rfl
set_option maxRecDepth 100000 in
theorem m1365 : Cond.methodLink "BorrowedBeatModel" 250 ⟨"BorrowedBeatModel", "readLaw", "(I)I"⟩ ∈ uw := muw mT6 81 rfl rfl
set_option maxRecDepth 100000 in
theorem m1367 : Cond.instanceMethod ⟨"BorrowedBeatModel", "readLaw", "(I)I"⟩ ∈ uw := muw mT6 83 rfl rfl
set_option maxRecDepth 100000 in
theorem m1368 : Cond.code ⟨"BorrowedBeatModel", "readLaw", "(I)I"⟩ prog_14_method_29_code 2 (Option.some ClassFile.FieldType.int) ∈ uw := muw mT6 84 rfl rfl
set_option maxRecDepth 100000 in
theorem m1369 : Cond.methodLink "BorrowedBeatModel" 182 ⟨"BorrowedBeatModel", "open", "(I)V"⟩ ∈ uw := muw mT6 85 rfl rfl
set_option maxRecDepth 100000 in
theorem m1371 : Cond.instanceMethod ⟨"BorrowedBeatModel", "open", "(I)V"⟩ ∈ uw := muw mT6 87 rfl rfl
set_option maxRecDepth 100000 in
theorem m1372 : Cond.code ⟨"BorrowedBeatModel", "open", "(I)V"⟩ prog_14_method_27_code 2 none ∈ uw := muw mT6 88 rfl rfl
set_option maxRecDepth 100000 in
theorem m1373 : Cond.methodLink "BorrowedBeatModel" 185 ⟨"BorrowedBeatModel", "clause", "()V"⟩ ∈ uw := muw mT6 89 rfl rfl
set_option maxRecDepth 100000 in
theorem m1375 : Cond.instanceMethod ⟨"BorrowedBeatModel", "clause", "()V"⟩ ∈ uw := muw mT6 91 rfl rfl
set_option maxRecDepth 100000 in
theorem m1376 : Cond.code ⟨"BorrowedBeatModel", "clause", "()V"⟩ prog_14_method_26_code 3 none ∈ uw := muw mT6 92 rfl rfl
set_option maxRecDepth 100000 in
theorem m1377 : Cond.methodLink "BorrowedBeatModel" 170 ⟨"BorrowedBeatModel", "condition", "()V"⟩ ∈ uw := muw mT6 93 rfl rfl
set_option maxRecDepth 100000 in
theorem m1379 : Cond.instanceMethod ⟨"BorrowedBeatModel", "condition", "()V"⟩ ∈ uw := muw mT6 95 rfl rfl
set_option maxRecDepth 100000 in
theorem m1380 : Cond.code ⟨"BorrowedBeatModel", "condition", "()V"⟩ prog_14_method_25_code 1 none ∈ uw := muw mT6 96 rfl rfl
set_option maxRecDepth 100000 in
theorem m1381 : Cond.methodLink "BorrowedBeatModel" 167 ⟨"BorrowedBeatModel", "unit", "()V"⟩ ∈ uw := muw mT6 97 rfl rfl
set_option maxRecDepth 100000 in
theorem m1383 : Cond.instanceMethod ⟨"BorrowedBeatModel", "unit", "()V"⟩ ∈ uw := muw mT6 99 rfl rfl
set_option maxRecDepth 100000 in
theorem m1384 : Cond.code ⟨"BorrowedBeatModel", "unit", "()V"⟩ prog_14_method_22_code 2 none ∈ uw := muw mT6 100 rfl rfl
set_option maxRecDepth 100000 in
theorem m1385 : Cond.methodLink "BorrowedBeatModel" 148 ⟨"BorrowedBeatModel", "opens", "()V"⟩ ∈ uw := muw mT6 101 rfl rfl
set_option maxRecDepth 100000 in
theorem m1387 : Cond.instanceMethod ⟨"BorrowedBeatModel", "opens", "()V"⟩ ∈ uw := muw mT6 103 rfl rfl
set_option maxRecDepth 100000 in
theorem m1388 : Cond.code ⟨"BorrowedBeatModel", "opens", "()V"⟩ prog_14_method_14_code 1 none ∈ uw := muw mT6 104 rfl rfl
set_option maxRecDepth 100000 in
theorem m1389 : Cond.methodLink "BorrowedBeatModel" 140 ⟨"BorrowedBeatModel", "put", "(II)V"⟩ ∈ uw := muw mT6 105 rfl rfl
set_option maxRecDepth 100000 in
theorem m1391 : Cond.instanceMethod ⟨"BorrowedBeatModel", "put", "(II)V"⟩ ∈ uw := muw mT6 107 rfl rfl
set_option maxRecDepth 100000 in
theorem m1392 : Cond.code ⟨"BorrowedBeatModel", "put", "(II)V"⟩ prog_14_method_12_code 3 none ∈ uw := muw mT6 108 rfl rfl
set_option maxRecDepth 100000 in
theorem m1393 : Cond.methodLink "BorrowedBeatModel" 154 ⟨"BorrowedBeatModel", "closes", "(I)V"⟩ ∈ uw := muw mT6 109 rfl rfl
set_option maxRecDepth 100000 in
theorem m1395 : Cond.instanceMethod ⟨"BorrowedBeatModel", "closes", "(I)V"⟩ ∈ uw := muw mT6 111 rfl rfl
set_option maxRecDepth 100000 in
theorem m1396 : Cond.code ⟨"BorrowedBeatModel", "closes", "(I)V"⟩ prog_14_method_15_code 2 none ∈ uw := muw mT6 112 rfl rfl
set_option maxRecDepth 100000 in
theorem m1397 : Cond.methodLink "BorrowedBeatModel" 151 ⟨"BorrowedBeatModel", "sum", "()V"⟩ ∈ uw := muw mT6 113 rfl rfl
set_option maxRecDepth 100000 in
theorem m1399 : Cond.instanceMethod ⟨"BorrowedBeatModel", "sum", "()V"⟩ ∈ uw := muw mT6 115 rfl rfl
set_option maxRecDepth 100000 in
theorem m1400 : Cond.code ⟨"BorrowedBeatModel", "sum", "()V"⟩ prog_14_method_19_code 2 none ∈ uw := muw mT6 116 rfl rfl
set_option maxRecDepth 100000 in
theorem m1401 : Cond.methodLink "BorrowedBeatModel" 161 ⟨"BorrowedBeatModel", "term", "()V"⟩ ∈ uw := muw mT6 117 rfl rfl
set_option maxRecDepth 100000 in
theorem m1403 : Cond.instanceMethod ⟨"BorrowedBeatModel", "term", "()V"⟩ ∈ uw := muw mT6 119 rfl rfl
set_option maxRecDepth 100000 in
theorem m1404 : Cond.code ⟨"BorrowedBeatModel", "term", "()V"⟩ prog_14_method_18_code 2 none ∈ uw := muw mT6 120 rfl rfl
set_option maxRecDepth 100000 in
theorem m1405 : Cond.methodLink "BorrowedBeatModel" 158 ⟨"BorrowedBeatModel", "atom", "()V"⟩ ∈ uw := muw mT6 121 rfl rfl
set_option maxRecDepth 100000 in
theorem m1407 : Cond.instanceMethod ⟨"BorrowedBeatModel", "atom", "()V"⟩ ∈ uw := muw mT6 123 rfl rfl
set_option maxRecDepth 100000 in
theorem m1408 : Cond.code ⟨"BorrowedBeatModel", "atom", "()V"⟩ prog_14_method_17_code 2 none ∈ uw := muw mT6 124 rfl rfl
set_option maxRecDepth 100000 in
theorem m1409 : Cond.methodLink "BorrowedBeatModel" 137 ⟨"BorrowedBeatModel", "plainNumber", "()I"⟩ ∈ uw := muw mT6 125 rfl rfl
set_option maxRecDepth 100000 in
theorem m1411 : Cond.instanceMethod ⟨"BorrowedBeatModel", "plainNumber", "()I"⟩ ∈ uw := muw mT6 127 rfl rfl
set_option maxRecDepth 100000 in
theorem m1412 : Cond.code ⟨"BorrowedBeatModel", "plainNumber", "()I"⟩ prog_14_method_16_code 3 (Option.some ClassFile.FieldType.int) ∈ uw := muw mT6 128 rfl rfl
set_option maxRecDepth 100000 in
theorem m1413 : Cond.methodLink "BorrowedBeatModel" 144 ⟨"BorrowedBeatModel", "letterOf", "(I)I"⟩ ∈ uw := muw mT6 129 rfl rfl
set_option maxRecDepth 100000 in
theorem m1414 : Cond.static ⟨"BorrowedBeatModel", "letterOf", "(I)I"⟩ ∈ uw := muw mT6 130 rfl rfl
set_option maxRecDepth 100000 in
theorem m1415 : Cond.code ⟨"BorrowedBeatModel", "letterOf", "(I)I"⟩ prog_14_method_13_code 1 (Option.some ClassFile.FieldType.int) ∈ uw := muw mT6 131 rfl rfl
set_option maxRecDepth 100000 in
theorem m1416 : Cond.methodLink "BorrowedBeatModel" 173 ⟨"BorrowedBeatModel", "compare", "()V"⟩ ∈ uw := muw mT6 132 rfl rfl
set_option maxRecDepth 100000 in
theorem m1418 : Cond.instanceMethod ⟨"BorrowedBeatModel", "compare", "()V"⟩ ∈ uw := muw mT6 134 rfl rfl
set_option maxRecDepth 100000 in
theorem m1419 : Cond.code ⟨"BorrowedBeatModel", "compare", "()V"⟩ prog_14_method_21_code 2 none ∈ uw := muw mT6 135 rfl rfl
set_option maxRecDepth 100000 in
theorem m1420 : Cond.methodLink "BorrowedBeatModel" 164 ⟨"BorrowedBeatModel", "isSign", "(I)Z"⟩ ∈ uw := muw mT6 136 rfl rfl
set_option maxRecDepth 100000 in
theorem m1421 : Cond.static ⟨"BorrowedBeatModel", "isSign", "(I)Z"⟩ ∈ uw := muw mT6 137 rfl rfl
set_option maxRecDepth 100000 in
theorem m1422 : Cond.code ⟨"BorrowedBeatModel", "isSign", "(I)Z"⟩ prog_14_method_20_code 1 (Option.some ClassFile.FieldType.boolean) ∈ uw := muw mT6 138 rfl rfl
set_option maxRecDepth 100000 in
theorem m1423 : Cond.methodLink "BorrowedBeatModel" 176 ⟨"BorrowedBeatModel", "goOnAnd", "()V"⟩ ∈ uw := muw mT6 139 rfl rfl
set_option maxRecDepth 100000 in
theorem m1425 : Cond.instanceMethod ⟨"BorrowedBeatModel", "goOnAnd", "()V"⟩ ∈ uw := muw mT6 141 rfl rfl
set_option maxRecDepth 100000 in
theorem m1426 : Cond.code ⟨"BorrowedBeatModel", "goOnAnd", "()V"⟩ prog_14_method_23_code 1 none ∈ uw := muw mT6 142 rfl rfl
set_option maxRecDepth 100000 in
theorem m1427 : Cond.methodLink "BorrowedBeatModel" 179 ⟨"BorrowedBeatModel", "goOnOr", "()V"⟩ ∈ uw := muw mT6 143 rfl rfl
set_option maxRecDepth 100000 in
theorem m1429 : Cond.instanceMethod ⟨"BorrowedBeatModel", "goOnOr", "()V"⟩ ∈ uw := muw mT6 145 rfl rfl
set_option maxRecDepth 100000 in
theorem m1430 : Cond.code ⟨"BorrowedBeatModel", "goOnOr", "()V"⟩ prog_14_method_24_code 1 none ∈ uw := muw mT6 146 rfl rfl
set_option maxRecDepth 100000 in
theorem m1431 : Cond.methodLink "BorrowedBeatModel" 188 ⟨"BorrowedBeatModel", "atEnd", "()I"⟩ ∈ uw := muw mT6 147 rfl rfl
set_option maxRecDepth 100000 in
theorem m1433 : Cond.instanceMethod ⟨"BorrowedBeatModel", "atEnd", "()I"⟩ ∈ uw := muw mT6 149 rfl rfl
set_option maxRecDepth 100000 in
theorem m1434 : Cond.code ⟨"BorrowedBeatModel", "atEnd", "()I"⟩ prog_14_method_28_code 1 (Option.some ClassFile.FieldType.int) ∈ uw := muw mT6 150 rfl rfl
set_option maxRecDepth 100000 in
theorem m1435 : Cond.methodLink "BorrowedBeatLaw" 37 ⟨"BorrowedBeatModel", "text", "(I)I"⟩ ∈ uw := muw mT6 151 rfl rfl
set_option maxRecDepth 100000 in
theorem m1436 : Cond.instanceMethod ⟨"BorrowedBeatModel", "text", "(I)I"⟩ ∈ uw := muw mT6 152 rfl rfl
set_option maxRecDepth 100000 in
theorem m1437 : Cond.selects "BorrowedBeatModel" ⟨"BorrowedBeatModel", "text", "(I)I"⟩ ⟨"BorrowedBeatModel", "text", "(I)I"⟩ ∈ uw := muw mT6 153 rfl rfl
set_option maxRecDepth 100000 in
theorem m1438 : Cond.code ⟨"BorrowedBeatModel", "text", "(I)I"⟩ prog_14_method_42_code 2 (Option.some ClassFile.FieldType.int) ∈ uw := muw mT6 154 rfl rfl
set_option maxRecDepth 100000 in
theorem m1439 : Cond.methodLink "BorrowedBeatModel" 275 ⟨"BorrowedBeatModel", "takeTown", "()I"⟩ ∈ uw := muw mT6 155 rfl rfl
set_option maxRecDepth 100000 in
theorem m1441 : Cond.instanceMethod ⟨"BorrowedBeatModel", "takeTown", "()I"⟩ ∈ uw := muw mT6 157 rfl rfl
set_option maxRecDepth 100000 in
theorem m1442 : Cond.code ⟨"BorrowedBeatModel", "takeTown", "()I"⟩ prog_14_method_41_code 2 (Option.some ClassFile.FieldType.int) ∈ uw := muw mT6 158 rfl rfl
set_option maxRecDepth 100000 in
theorem m1443 : Cond.methodLink "BorrowedBeatLaw" 43 ⟨"BorrowedBeatModel", "player", "(II)I"⟩ ∈ uw := muw mT6 159 rfl rfl
set_option maxRecDepth 100000 in
theorem m1444 : Cond.instanceMethod ⟨"BorrowedBeatModel", "player", "(II)I"⟩ ∈ uw := muw mT6 160 rfl rfl
set_option maxRecDepth 100000 in
theorem m1445 : Cond.selects "BorrowedBeatModel" ⟨"BorrowedBeatModel", "player", "(II)I"⟩ ⟨"BorrowedBeatModel", "player", "(II)I"⟩ ∈ uw := muw mT6 161 rfl rfl
set_option maxRecDepth 100000 in
theorem m1446 : Cond.code ⟨"BorrowedBeatModel", "player", "(II)I"⟩ prog_14_method_45_code 3 (Option.some ClassFile.FieldType.int) ∈ uw := muw mT6 162 rfl rfl
set_option maxRecDepth 100000 in
theorem m1447 : Cond.methodLink "BorrowedBeatModel" 281 ⟨"BorrowedBeatModel", "isPlayer", "(I)Z"⟩ ∈ uw := muw mT6 163 rfl rfl
set_option maxRecDepth 100000 in
theorem m1449 : Cond.instanceMethod ⟨"BorrowedBeatModel", "isPlayer", "(I)Z"⟩ ∈ uw := muw mT6 165 rfl rfl
set_option maxRecDepth 100000 in
theorem m1450 : Cond.code ⟨"BorrowedBeatModel", "isPlayer", "(I)Z"⟩ prog_14_method_43_code 2 (Option.some ClassFile.FieldType.boolean) ∈ uw := muw mT6 166 rfl rfl
set_option maxRecDepth 100000 in
theorem m1451 : Cond.methodLink "BorrowedBeatModel" 284 ⟨"BorrowedBeatModel", "of", "(II)I"⟩ ∈ uw := muw mT6 167 rfl rfl
set_option maxRecDepth 100000 in
theorem m1453 : Cond.instanceMethod ⟨"BorrowedBeatModel", "of", "(II)I"⟩ ∈ uw := muw mT6 169 rfl rfl
set_option maxRecDepth 100000 in
theorem m1454 : Cond.code ⟨"BorrowedBeatModel", "of", "(II)I"⟩ prog_14_method_44_code 3 (Option.some ClassFile.FieldType.int) ∈ uw := muw mT6 170 rfl rfl
set_option maxRecDepth 100000 in
theorem m1455 : Cond.methodLink "BorrowedBeatLaw" 48 ⟨"BorrowedBeatModel", "set", "(II)Z"⟩ ∈ uw := muw mT6 171 rfl rfl
set_option maxRecDepth 100000 in
theorem m1456 : Cond.instanceMethod ⟨"BorrowedBeatModel", "set", "(II)Z"⟩ ∈ uw := muw mT6 172 rfl rfl
set_option maxRecDepth 100000 in
theorem m1457 : Cond.selects "BorrowedBeatModel" ⟨"BorrowedBeatModel", "set", "(II)Z"⟩ ⟨"BorrowedBeatModel", "set", "(II)Z"⟩ ∈ uw := muw mT6 173 rfl rfl
set_option maxRecDepth 100000 in
theorem m1458 : Cond.code ⟨"BorrowedBeatModel", "set", "(II)Z"⟩ prog_14_method_46_code 3 (Option.some ClassFile.FieldType.boolean) ∈ uw := muw mT6 174 rfl rfl
set_option maxRecDepth 100000 in
theorem m1459 : Cond.methodLink "BorrowedBeatLaw" 53 ⟨"BorrowedBeatModel", "tell", "(III)Z"⟩ ∈ uw := muw mT6 175 rfl rfl
set_option maxRecDepth 100000 in
theorem m1460 : Cond.instanceMethod ⟨"BorrowedBeatModel", "tell", "(III)Z"⟩ ∈ uw := muw mT6 176 rfl rfl
set_option maxRecDepth 100000 in
theorem m1461 : Cond.selects "BorrowedBeatModel" ⟨"BorrowedBeatModel", "tell", "(III)Z"⟩ ⟨"BorrowedBeatModel", "tell", "(III)Z"⟩ ∈ uw := muw mT6 177 rfl rfl
set_option maxRecDepth 100000 in
theorem m1462 : Cond.code ⟨"BorrowedBeatModel", "tell", "(III)Z"⟩ prog_14_method_47_code 4 (Option.some ClassFile.FieldType.boolean) ∈ uw := muw mT6 178 rfl rfl
set_option maxRecDepth 100000 in
theorem m1463 : Cond.methodLink "BorrowedBeatLaw" 58 ⟨"BorrowedBeatModel", "mark", "(IZ)Z"⟩ ∈ uw := muw mT6 179 rfl rfl
set_option maxRecDepth 100000 in
theorem m1464 : Cond.instanceMethod ⟨"BorrowedBeatModel", "mark", "(IZ)Z"⟩ ∈ uw := muw mT6 180 rfl rfl
set_option maxRecDepth 100000 in
theorem m1465 : Cond.selects "BorrowedBeatModel" ⟨"BorrowedBeatModel", "mark", "(IZ)Z"⟩ ⟨"BorrowedBeatModel", "mark", "(IZ)Z"⟩ ∈ uw := muw mT6 181 rfl rfl
set_option maxRecDepth 100000 in
theorem m1466 : Cond.code ⟨"BorrowedBeatModel", "mark", "(IZ)Z"⟩ prog_14_method_48_code 3 (Option.some ClassFile.FieldType.boolean) ∈ uw := muw mT6 182 rfl rfl
set_option maxRecDepth 100000 in
theorem m1467 : Cond.methodLink "BorrowedBeatLaw" 62 ⟨"BorrowedBeatModel", "damp", "(I)I"⟩ ∈ uw := muw mT6 183 rfl rfl
set_option maxRecDepth 100000 in
theorem m1468 : Cond.instanceMethod ⟨"BorrowedBeatModel", "damp", "(I)I"⟩ ∈ uw := muw mT6 184 rfl rfl
set_option maxRecDepth 100000 in
theorem m1469 : Cond.selects "BorrowedBeatModel" ⟨"BorrowedBeatModel", "damp", "(I)I"⟩ ⟨"BorrowedBeatModel", "damp", "(I)I"⟩ ∈ uw := muw mT6 185 rfl rfl
set_option maxRecDepth 100000 in
theorem m1470 : Cond.code ⟨"BorrowedBeatModel", "damp", "(I)I"⟩ prog_14_method_50_code 2 (Option.some ClassFile.FieldType.int) ∈ uw := muw mT6 186 rfl rfl
set_option maxRecDepth 100000 in
theorem m1471 : Cond.methodLink "BorrowedBeatModel" 297 ⟨"BorrowedBeatModel", "dampOf", "(I)I"⟩ ∈ uw := muw mT6 187 rfl rfl
set_option maxRecDepth 100000 in
theorem m1473 : Cond.instanceMethod ⟨"BorrowedBeatModel", "dampOf", "(I)I"⟩ ∈ uw := muw mT6 189 rfl rfl
set_option maxRecDepth 100000 in
theorem m1474 : Cond.code ⟨"BorrowedBeatModel", "dampOf", "(I)I"⟩ prog_14_method_49_code 4 (Option.some ClassFile.FieldType.int) ∈ uw := muw mT6 190 rfl rfl
set_option maxRecDepth 100000 in
theorem m1475 : Cond.methodLink "BorrowedBeatModel" 290 ⟨"BorrowedBeatModel", "worthOf", "(I)I"⟩ ∈ uw := muw mT6 191 rfl rfl
set_option maxRecDepth 100000 in
theorem m1477 : Cond.instanceMethod ⟨"BorrowedBeatModel", "worthOf", "(I)I"⟩ ∈ uw := muw mT6 193 rfl rfl
set_option maxRecDepth 100000 in
theorem m1478 : Cond.code ⟨"BorrowedBeatModel", "worthOf", "(I)I"⟩ prog_14_method_33_code 3 (Option.some ClassFile.FieldType.int) ∈ uw := muw mT6 194 rfl rfl
set_option maxRecDepth 100000 in
theorem m1479 : Cond.methodLink "BorrowedBeatModel" 212 ⟨"BorrowedBeatModel", "workOut", "(III)I"⟩ ∈ uw := muw mT6 195 rfl rfl
set_option maxRecDepth 100000 in
theorem m1481 : Cond.instanceMethod ⟨"BorrowedBeatModel", "workOut", "(III)I"⟩ ∈ uw := muw mT6 197 rfl rfl
set_option maxRecDepth 100000 in
theorem m1482 : Cond.code ⟨"BorrowedBeatModel", "workOut", "(III)I"⟩ prog_14_method_32_code 6 (Option.some ClassFile.FieldType.int) ∈ uw := muw mT6 198 rfl rfl
set_option maxRecDepth 100000 in
theorem m1483 : Cond.methodLink "BorrowedBeatModel" 208 ⟨"BorrowedBeatModel", "worked", "(IJJ)I"⟩ ∈ uw := muw mT6 199 rfl rfl
set_option maxRecDepth 100000 in
theorem m1484 : Cond.static ⟨"BorrowedBeatModel", "worked", "(IJJ)I"⟩ ∈ uw := muw mT6 200 rfl rfl
set_option maxRecDepth 100000 in
theorem m1485 : Cond.code ⟨"BorrowedBeatModel", "worked", "(IJJ)I"⟩ prog_14_method_31_code 5 (Option.some ClassFile.FieldType.int) ∈ uw := muw mT6 201 rfl rfl
set_option maxRecDepth 100000 in
theorem m1486 : Cond.methodLink "BorrowedBeatModel" 204 ⟨"BorrowedBeatModel", "bounded", "(J)I"⟩ ∈ uw := muw mT6 202 rfl rfl
set_option maxRecDepth 100000 in
theorem m1487 : Cond.static ⟨"BorrowedBeatModel", "bounded", "(J)I"⟩ ∈ uw := muw mT6 203 rfl rfl
set_option maxRecDepth 100000 in
theorem m1488 : Cond.code ⟨"BorrowedBeatModel", "bounded", "(J)I"⟩ prog_14_method_30_code 2 (Option.some ClassFile.FieldType.int) ∈ uw := muw mT6 204 rfl rfl
set_option maxRecDepth 100000 in
theorem m1491 : Cond.methodLink "BorrowedBeatModel" 195 ⟨"java/lang/Math", "min", "(JJ)J"⟩ ∈ uw := muw mT6 207 rfl rfl
set_option maxRecDepth 100000 in
theorem m1492 : Cond.methodLink "BorrowedBeatModel" 201 ⟨"java/lang/Math", "max", "(JJ)J"⟩ ∈ uw := muw mT6 208 rfl rfl
set_option maxRecDepth 100000 in
theorem m1493 : Cond.methodLink "BorrowedBeatModel" 293 ⟨"java/lang/Math", "min", "(II)I"⟩ ∈ uw := muw mT6 209 rfl rfl
set_option maxRecDepth 100000 in
theorem m1494 : Cond.methodLink "BorrowedBeatModel" 295 ⟨"java/lang/Math", "max", "(II)I"⟩ ∈ uw := muw mT6 210 rfl rfl
set_option maxRecDepth 100000 in
theorem m1495 : Cond.methodLink "BorrowedBeatLaw" 66 ⟨"BorrowedBeatModel", "day", "(I)I"⟩ ∈ uw := muw mT6 211 rfl rfl
set_option maxRecDepth 100000 in
theorem m1496 : Cond.instanceMethod ⟨"BorrowedBeatModel", "day", "(I)I"⟩ ∈ uw := muw mT6 212 rfl rfl
set_option maxRecDepth 100000 in
theorem m1497 : Cond.selects "BorrowedBeatModel" ⟨"BorrowedBeatModel", "day", "(I)I"⟩ ⟨"BorrowedBeatModel", "day", "(I)I"⟩ ∈ uw := muw mT6 213 rfl rfl
set_option maxRecDepth 100000 in
theorem m1498 : Cond.code ⟨"BorrowedBeatModel", "day", "(I)I"⟩ prog_14_method_52_code 3 (Option.some ClassFile.FieldType.int) ∈ uw := muw mT6 214 rfl rfl
set_option maxRecDepth 100000 in
theorem m1499 : Cond.methodLink "BorrowedBeatModel" 300 ⟨"BorrowedBeatModel", "pass", "(II)V"⟩ ∈ uw := muw mT6 215 rfl rfl
set_option maxRecDepth 100000 in
theorem m1501 : Cond.instanceMethod ⟨"BorrowedBeatModel", "pass", "(II)V"⟩ ∈ uw := muw mT6 217 rfl rfl
set_option maxRecDepth 100000 in
theorem m1502 : Cond.code ⟨"BorrowedBeatModel", "pass", "(II)V"⟩ prog_14_method_51_code 7 none ∈ uw := muw mT6 218 rfl rfl
set_option maxRecDepth 100000 in
theorem m1503 : Cond.methodLink "BorrowedBeatLaw" 71 ⟨"BorrowedBeatModel", "undo", "()I"⟩ ∈ uw := muw mT6 219 rfl rfl
set_option maxRecDepth 100000 in
theorem m1504 : Cond.instanceMethod ⟨"BorrowedBeatModel", "undo", "()I"⟩ ∈ uw := muw mT6 220 rfl rfl
set_option maxRecDepth 100000 in
theorem m1505 : Cond.selects "BorrowedBeatModel" ⟨"BorrowedBeatModel", "undo", "()I"⟩ ⟨"BorrowedBeatModel", "undo", "()I"⟩ ∈ uw := muw mT6 221 rfl rfl
set_option maxRecDepth 100000 in
theorem m1506 : Cond.code ⟨"BorrowedBeatModel", "undo", "()I"⟩ prog_14_method_53_code 2 (Option.some ClassFile.FieldType.int) ∈ uw := muw mT6 222 rfl rfl
set_option maxRecDepth 100000 in
theorem m1507 : Cond.methodLink "BorrowedBeatLaw" 76 ⟨"BorrowedBeatModel", "time", "(III)I"⟩ ∈ uw := muw mT6 223 rfl rfl
set_option maxRecDepth 100000 in
theorem m1508 : Cond.instanceMethod ⟨"BorrowedBeatModel", "time", "(III)I"⟩ ∈ uw := muw mT6 224 rfl rfl
set_option maxRecDepth 100000 in
theorem m1509 : Cond.selects "BorrowedBeatModel" ⟨"BorrowedBeatModel", "time", "(III)I"⟩ ⟨"BorrowedBeatModel", "time", "(III)I"⟩ ∈ uw := muw mT6 225 rfl rfl
set_option maxRecDepth 100000 in
theorem m1510 : Cond.code ⟨"BorrowedBeatModel", "time", "(III)I"⟩ prog_14_method_58_code 4 (Option.some ClassFile.FieldType.int) ∈ uw := muw mT6 226 rfl rfl
set_option maxRecDepth 100000 in
theorem m1511 : Cond.methodLink "BorrowedBeatModel" 309 ⟨"BorrowedBeatModel", "isBar", "(I)Z"⟩ ∈ uw := muw mT6 227 rfl rfl
set_option maxRecDepth 100000 in
theorem m1513 : Cond.instanceMethod ⟨"BorrowedBeatModel", "isBar", "(I)Z"⟩ ∈ uw := muw mT6 229 rfl rfl
set_option maxRecDepth 100000 in
theorem m1514 : Cond.code ⟨"BorrowedBeatModel", "isBar", "(I)Z"⟩ prog_14_method_57_code 2 (Option.some ClassFile.FieldType.boolean) ∈ uw := muw mT6 230 rfl rfl
set_option maxRecDepth 100000 in
theorem m1515 : Cond.methodLink "BorrowedBeatModel" 312 ⟨"BorrowedBeatModel", "play", "()V"⟩ ∈ uw := muw mT6 231 rfl rfl
set_option maxRecDepth 100000 in
theorem m1517 : Cond.instanceMethod ⟨"BorrowedBeatModel", "play", "()V"⟩ ∈ uw := muw mT6 233 rfl rfl
set_option maxRecDepth 100000 in
theorem m1518 : Cond.code ⟨"BorrowedBeatModel", "play", "()V"⟩ prog_14_method_56_code 5 none ∈ uw := muw mT6 234 rfl rfl
set_option maxRecDepth 100000 in
theorem m1519 : Cond.methodLink "BorrowedBeatModel" 306 ⟨"BorrowedBeatModel", "layBeats", "(I)V"⟩ ∈ uw := muw mT6 235 rfl rfl
set_option maxRecDepth 100000 in
theorem m1521 : Cond.instanceMethod ⟨"BorrowedBeatModel", "layBeats", "(I)V"⟩ ∈ uw := muw mT6 237 rfl rfl
set_option maxRecDepth 100000 in
theorem m1522 : Cond.code ⟨"BorrowedBeatModel", "layBeats", "(I)V"⟩ prog_14_method_54_code 4 none ∈ uw := muw mT6 238 rfl rfl
set_option maxRecDepth 100000 in
theorem m1523 : Cond.methodLink "BorrowedBeatModel" 303 ⟨"BorrowedBeatModel", "beatBehind", "(II)I"⟩ ∈ uw := muw mT6 239 rfl rfl
set_option maxRecDepth 100000 in
theorem m1525 : Cond.instanceMethod ⟨"BorrowedBeatModel", "beatBehind", "(II)I"⟩ ∈ uw := muw mT7 1 rfl rfl
set_option maxRecDepth 100000 in
theorem m1526 : Cond.code ⟨"BorrowedBeatModel", "beatBehind", "(II)I"⟩ prog_14_method_55_code 6 (Option.some ClassFile.FieldType.int) ∈ uw := muw mT7 2 rfl rfl
set_option maxRecDepth 100000 in
theorem m1527 : Cond.methodLink "BorrowedBeatLaw" 80 ⟨"BorrowedBeatModel", "spread", "(I)I"⟩ ∈ uw := muw mT7 3 rfl rfl
set_option maxRecDepth 100000 in
theorem m1528 : Cond.instanceMethod ⟨"BorrowedBeatModel", "spread", "(I)I"⟩ ∈ uw := muw mT7 4 rfl rfl
set_option maxRecDepth 100000 in
theorem m1529 : Cond.selects "BorrowedBeatModel" ⟨"BorrowedBeatModel", "spread", "(I)I"⟩ ⟨"BorrowedBeatModel", "spread", "(I)I"⟩ ∈ uw := muw mT7 5 rfl rfl
set_option maxRecDepth 100000 in
theorem m1530 : Cond.code ⟨"BorrowedBeatModel", "spread", "(I)I"⟩ prog_14_method_60_code 2 (Option.some ClassFile.FieldType.int) ∈ uw := muw mT7 6 rfl rfl
set_option maxRecDepth 100000 in
theorem m1531 : Cond.methodLink "BorrowedBeatModel" 315 ⟨"BorrowedBeatModel", "spreadAt", "(I)I"⟩ ∈ uw := muw mT7 7 rfl rfl
set_option maxRecDepth 100000 in
theorem m1533 : Cond.instanceMethod ⟨"BorrowedBeatModel", "spreadAt", "(I)I"⟩ ∈ uw := muw mT7 9 rfl rfl
set_option maxRecDepth 100000 in
theorem m1534 : Cond.code ⟨"BorrowedBeatModel", "spreadAt", "(I)I"⟩ prog_14_method_59_code 5 (Option.some ClassFile.FieldType.int) ∈ uw := muw mT7 10 rfl rfl
set_option maxRecDepth 100000 in
theorem m1535 : Cond.methodLink "BorrowedBeatLaw" 84 ⟨"BorrowedBeatModel", "worst", "(I)I"⟩ ∈ uw := muw mT7 11 rfl rfl
set_option maxRecDepth 100000 in
theorem m1536 : Cond.instanceMethod ⟨"BorrowedBeatModel", "worst", "(I)I"⟩ ∈ uw := muw mT7 12 rfl rfl
set_option maxRecDepth 100000 in
theorem m1537 : Cond.selects "BorrowedBeatModel" ⟨"BorrowedBeatModel", "worst", "(I)I"⟩ ⟨"BorrowedBeatModel", "worst", "(I)I"⟩ ∈ uw := muw mT7 13 rfl rfl
set_option maxRecDepth 100000 in
theorem m1538 : Cond.code ⟨"BorrowedBeatModel", "worst", "(I)I"⟩ prog_14_method_63_code 2 (Option.some ClassFile.FieldType.int) ∈ uw := muw mT7 14 rfl rfl
set_option maxRecDepth 100000 in
theorem m1539 : Cond.methodLink "BorrowedBeatModel" 321 ⟨"BorrowedBeatModel", "worstNow", "()I"⟩ ∈ uw := muw mT7 15 rfl rfl
set_option maxRecDepth 100000 in
theorem m1541 : Cond.instanceMethod ⟨"BorrowedBeatModel", "worstNow", "()I"⟩ ∈ uw := muw mT7 17 rfl rfl
set_option maxRecDepth 100000 in
theorem m1542 : Cond.code ⟨"BorrowedBeatModel", "worstNow", "()I"⟩ prog_14_method_62_code 1 (Option.some ClassFile.FieldType.int) ∈ uw := muw mT7 18 rfl rfl
set_option maxRecDepth 100000 in
theorem m1543 : Cond.methodLink "BorrowedBeatModel" 318 ⟨"BorrowedBeatModel", "worstBar", "()I"⟩ ∈ uw := muw mT7 19 rfl rfl
set_option maxRecDepth 100000 in
theorem m1545 : Cond.instanceMethod ⟨"BorrowedBeatModel", "worstBar", "()I"⟩ ∈ uw := muw mT7 21 rfl rfl
set_option maxRecDepth 100000 in
theorem m1546 : Cond.code ⟨"BorrowedBeatModel", "worstBar", "()I"⟩ prog_14_method_61_code 3 (Option.some ClassFile.FieldType.int) ∈ uw := muw mT7 22 rfl rfl
set_option maxRecDepth 100000 in
theorem m1547 : Cond.methodLink "BorrowedBeatLaw" 88 ⟨"BorrowedBeatModel", "parts", "()I"⟩ ∈ uw := muw mT7 23 rfl rfl
set_option maxRecDepth 100000 in
theorem m1548 : Cond.instanceMethod ⟨"BorrowedBeatModel", "parts", "()I"⟩ ∈ uw := muw mT7 24 rfl rfl
set_option maxRecDepth 100000 in
theorem m1549 : Cond.selects "BorrowedBeatModel" ⟨"BorrowedBeatModel", "parts", "()I"⟩ ⟨"BorrowedBeatModel", "parts", "()I"⟩ ∈ uw := muw mT7 25 rfl rfl
set_option maxRecDepth 100000 in
theorem m1550 : Cond.code ⟨"BorrowedBeatModel", "parts", "()I"⟩ prog_14_method_64_code 2 (Option.some ClassFile.FieldType.int) ∈ uw := muw mT7 26 rfl rfl
set_option maxRecDepth 100000 in
theorem m1551 : Cond.methodLink "BorrowedBeatLaw" 92 ⟨"BorrowedBeatModel", "last", "(I)I"⟩ ∈ uw := muw mT7 27 rfl rfl
set_option maxRecDepth 100000 in
theorem m1552 : Cond.instanceMethod ⟨"BorrowedBeatModel", "last", "(I)I"⟩ ∈ uw := muw mT7 28 rfl rfl
set_option maxRecDepth 100000 in
theorem m1553 : Cond.selects "BorrowedBeatModel" ⟨"BorrowedBeatModel", "last", "(I)I"⟩ ⟨"BorrowedBeatModel", "last", "(I)I"⟩ ∈ uw := muw mT7 29 rfl rfl
set_option maxRecDepth 100000 in
theorem m1554 : Cond.code ⟨"BorrowedBeatModel", "last", "(I)I"⟩ prog_14_method_66_code 2 (Option.some ClassFile.FieldType.int) ∈ uw := muw mT7 30 rfl rfl
set_option maxRecDepth 100000 in
theorem m1555 : Cond.methodLink "BorrowedBeatModel" 324 ⟨"BorrowedBeatModel", "lastAt", "(I)I"⟩ ∈ uw := muw mT7 31 rfl rfl
set_option maxRecDepth 100000 in
theorem m1557 : Cond.instanceMethod ⟨"BorrowedBeatModel", "lastAt", "(I)I"⟩ ∈ uw := muw mT7 33 rfl rfl
set_option maxRecDepth 100000 in
theorem m1558 : Cond.code ⟨"BorrowedBeatModel", "lastAt", "(I)I"⟩ prog_14_method_65_code 4 (Option.some ClassFile.FieldType.int) ∈ uw := muw mT7 34 rfl rfl
set_option maxRecDepth 100000 in
theorem m1559 : Cond.methodLink "BorrowedBeatLaw" 96 ⟨"BorrowedBeatModel", "settle", "(I)I"⟩ ∈ uw := muw mT7 35 rfl rfl
set_option maxRecDepth 100000 in
theorem m1560 : Cond.instanceMethod ⟨"BorrowedBeatModel", "settle", "(I)I"⟩ ∈ uw := muw mT7 36 rfl rfl
set_option maxRecDepth 100000 in
theorem m1561 : Cond.selects "BorrowedBeatModel" ⟨"BorrowedBeatModel", "settle", "(I)I"⟩ ⟨"BorrowedBeatModel", "settle", "(I)I"⟩ ∈ uw := muw mT7 37 rfl rfl
set_option maxRecDepth 100000 in
theorem m1562 : Cond.code ⟨"BorrowedBeatModel", "settle", "(I)I"⟩ prog_14_method_68_code 4 (Option.some ClassFile.FieldType.int) ∈ uw := muw mT7 38 rfl rfl
set_option maxRecDepth 100000 in
theorem m1563 : Cond.methodLink "BorrowedBeatModel" 327 ⟨"BorrowedBeatModel", "areLike", "(II)Z"⟩ ∈ uw := muw mT7 39 rfl rfl
set_option maxRecDepth 100000 in
theorem m1565 : Cond.instanceMethod ⟨"BorrowedBeatModel", "areLike", "(II)Z"⟩ ∈ uw := muw mT7 41 rfl rfl
set_option maxRecDepth 100000 in
theorem m1566 : Cond.code ⟨"BorrowedBeatModel", "areLike", "(II)Z"⟩ prog_14_method_67_code 5 (Option.some ClassFile.FieldType.boolean) ∈ uw := muw mT7 42 rfl rfl
set_option maxRecDepth 100000 in
theorem m1567 : Cond.methodLink "BorrowedBeatLaw" 100 ⟨"BorrowedBeatModel", "ring", "(I)I"⟩ ∈ uw := muw mT7 43 rfl rfl
set_option maxRecDepth 100000 in
theorem m1568 : Cond.instanceMethod ⟨"BorrowedBeatModel", "ring", "(I)I"⟩ ∈ uw := muw mT7 44 rfl rfl
set_option maxRecDepth 100000 in
theorem m1569 : Cond.selects "BorrowedBeatModel" ⟨"BorrowedBeatModel", "ring", "(I)I"⟩ ⟨"BorrowedBeatModel", "ring", "(I)I"⟩ ∈ uw := muw mT7 45 rfl rfl
set_option maxRecDepth 100000 in
theorem m1570 : Cond.code ⟨"BorrowedBeatModel", "ring", "(I)I"⟩ prog_14_method_69_code 4 (Option.some ClassFile.FieldType.int) ∈ uw := muw mT7 46 rfl rfl
set_option maxRecDepth 100000 in
theorem m1571 : Cond.methodLink "BorrowedBeatLaw" 104 ⟨"BorrowedBeatModel", "head", "(I)I"⟩ ∈ uw := muw mT7 47 rfl rfl
set_option maxRecDepth 100000 in
theorem m1572 : Cond.instanceMethod ⟨"BorrowedBeatModel", "head", "(I)I"⟩ ∈ uw := muw mT7 48 rfl rfl
set_option maxRecDepth 100000 in
theorem m1573 : Cond.selects "BorrowedBeatModel" ⟨"BorrowedBeatModel", "head", "(I)I"⟩ ⟨"BorrowedBeatModel", "head", "(I)I"⟩ ∈ uw := muw mT7 49 rfl rfl
set_option maxRecDepth 100000 in
theorem m1574 : Cond.code ⟨"BorrowedBeatModel", "head", "(I)I"⟩ prog_14_method_70_code 4 (Option.some ClassFile.FieldType.int) ∈ uw := muw mT7 50 rfl rfl
set_option maxRecDepth 100000 in
theorem m1575 : Cond.methodLink "BorrowedBeatLaw" 108 ⟨"BorrowedBeatModel", "week", "(I)I"⟩ ∈ uw := muw mT7 51 rfl rfl
set_option maxRecDepth 100000 in
theorem m1576 : Cond.instanceMethod ⟨"BorrowedBeatModel", "week", "(I)I"⟩ ∈ uw := muw mT7 52 rfl rfl
set_option maxRecDepth 100000 in
theorem m1577 : Cond.selects "BorrowedBeatModel" ⟨"BorrowedBeatModel", "week", "(I)I"⟩ ⟨"BorrowedBeatModel", "week", "(I)I"⟩ ∈ uw := muw mT7 53 rfl rfl
set_option maxRecDepth 100000 in
theorem m1578 : Cond.code ⟨"BorrowedBeatModel", "week", "(I)I"⟩ prog_14_method_74_code 3 (Option.some ClassFile.FieldType.int) ∈ uw := muw mT7 54 rfl rfl
set_option maxRecDepth 100000 in
theorem m1579 : Cond.methodLink "BorrowedBeatModel" 339 ⟨"BorrowedBeatModel", "weekFrom", "(II)V"⟩ ∈ uw := muw mT7 55 rfl rfl
set_option maxRecDepth 100000 in
theorem m1581 : Cond.instanceMethod ⟨"BorrowedBeatModel", "weekFrom", "(II)V"⟩ ∈ uw := muw mT7 57 rfl rfl
set_option maxRecDepth 100000 in
theorem m1582 : Cond.code ⟨"BorrowedBeatModel", "weekFrom", "(II)V"⟩ prog_14_method_73_code 4 none ∈ uw := muw mT7 58 rfl rfl
set_option maxRecDepth 100000 in
theorem m1583 : Cond.methodLink "BorrowedBeatModel" 336 ⟨"BorrowedBeatModel", "keepBeats", "(I)V"⟩ ∈ uw := muw mT7 59 rfl rfl
set_option maxRecDepth 100000 in
theorem m1585 : Cond.instanceMethod ⟨"BorrowedBeatModel", "keepBeats", "(I)V"⟩ ∈ uw := muw mT7 61 rfl rfl
set_option maxRecDepth 100000 in
theorem m1586 : Cond.code ⟨"BorrowedBeatModel", "keepBeats", "(I)V"⟩ prog_14_method_71_code 3 none ∈ uw := muw mT7 62 rfl rfl
set_option maxRecDepth 100000 in
theorem m1587 : Cond.methodLink "BorrowedBeatModel" 342 ⟨"BorrowedBeatModel", "takeBeats", "(I)V"⟩ ∈ uw := muw mT7 63 rfl rfl
set_option maxRecDepth 100000 in
theorem m1589 : Cond.instanceMethod ⟨"BorrowedBeatModel", "takeBeats", "(I)V"⟩ ∈ uw := muw mT7 65 rfl rfl
set_option maxRecDepth 100000 in
theorem m1590 : Cond.code ⟨"BorrowedBeatModel", "takeBeats", "(I)V"⟩ prog_14_method_72_code 3 none ∈ uw := muw mT7 66 rfl rfl
set_option maxRecDepth 100000 in
theorem m1591 : Cond.methodLink "BorrowedBeatLaw" 112 ⟨"BorrowedBeatModel", "leader", "(II)I"⟩ ∈ uw := muw mT7 67 rfl rfl
set_option maxRecDepth 100000 in
theorem m1592 : Cond.instanceMethod ⟨"BorrowedBeatModel", "leader", "(II)I"⟩ ∈ uw := muw mT7 68 rfl rfl
set_option maxRecDepth 100000 in
theorem m1593 : Cond.selects "BorrowedBeatModel" ⟨"BorrowedBeatModel", "leader", "(II)I"⟩ ⟨"BorrowedBeatModel", "leader", "(II)I"⟩ ∈ uw := muw mT7 69 rfl rfl
set_option maxRecDepth 100000 in
theorem m1594 : Cond.code ⟨"BorrowedBeatModel", "leader", "(II)I"⟩ prog_14_method_75_code 8 (Option.some ClassFile.FieldType.int) ∈ uw := muw mT7 70 rfl rfl
set_option maxRecDepth 100000 in
theorem m1596 : Cond.methodLink "BorrowedBeatLaw" 116 ⟨"BorrowedBeatModel", "marks", "(I)I"⟩ ∈ uw := muw mT7 72 rfl rfl
set_option maxRecDepth 100000 in
theorem m1597 : Cond.instanceMethod ⟨"BorrowedBeatModel", "marks", "(I)I"⟩ ∈ uw := muw mT7 73 rfl rfl
set_option maxRecDepth 100000 in
theorem m1598 : Cond.selects "BorrowedBeatModel" ⟨"BorrowedBeatModel", "marks", "(I)I"⟩ ⟨"BorrowedBeatModel", "marks", "(I)I"⟩ ∈ uw := muw mT7 74 rfl rfl
set_option maxRecDepth 100000 in
theorem m1599 : Cond.code ⟨"BorrowedBeatModel", "marks", "(I)I"⟩ prog_14_method_77_code 3 (Option.some ClassFile.FieldType.int) ∈ uw := muw mT7 75 rfl rfl
set_option maxRecDepth 100000 in
theorem m1600 : Cond.methodLink "BorrowedBeatModel" 346 ⟨"BorrowedBeatModel", "marksFrom", "(I)V"⟩ ∈ uw := muw mT7 76 rfl rfl
set_option maxRecDepth 100000 in
theorem m1602 : Cond.instanceMethod ⟨"BorrowedBeatModel", "marksFrom", "(I)V"⟩ ∈ uw := muw mT7 78 rfl rfl
set_option maxRecDepth 100000 in
theorem m1603 : Cond.code ⟨"BorrowedBeatModel", "marksFrom", "(I)V"⟩ prog_14_method_76_code 7 none ∈ uw := muw mT7 79 rfl rfl
set_option maxRecDepth 100000 in
theorem m1604 : Cond.methodLink "BorrowedBeatLaw" 120 ⟨"BorrowedBeatModel", "odds", "(II)I"⟩ ∈ uw := muw mT7 80 rfl rfl
set_option maxRecDepth 100000 in
theorem m1605 : Cond.instanceMethod ⟨"BorrowedBeatModel", "odds", "(II)I"⟩ ∈ uw := muw mT7 81 rfl rfl
set_option maxRecDepth 100000 in
theorem m1606 : Cond.selects "BorrowedBeatModel" ⟨"BorrowedBeatModel", "odds", "(II)I"⟩ ⟨"BorrowedBeatModel", "odds", "(II)I"⟩ ∈ uw := muw mT7 82 rfl rfl
set_option maxRecDepth 100000 in
theorem m1607 : Cond.code ⟨"BorrowedBeatModel", "odds", "(II)I"⟩ prog_14_method_79_code 3 (Option.some ClassFile.FieldType.int) ∈ uw := muw mT7 83 rfl rfl
set_option maxRecDepth 100000 in
theorem m1608 : Cond.methodLink "BorrowedBeatModel" 349 ⟨"BorrowedBeatModel", "oddsFrom", "(III)I"⟩ ∈ uw := muw mT7 84 rfl rfl
set_option maxRecDepth 100000 in
theorem m1610 : Cond.instanceMethod ⟨"BorrowedBeatModel", "oddsFrom", "(III)I"⟩ ∈ uw := muw mT7 86 rfl rfl
set_option maxRecDepth 100000 in
theorem m1611 : Cond.code ⟨"BorrowedBeatModel", "oddsFrom", "(III)I"⟩ prog_14_method_78_code 6 (Option.some ClassFile.FieldType.int) ∈ uw := muw mT7 87 rfl rfl
set_option maxRecDepth 100000 in
theorem m1612 : Cond.methodLink "BorrowedBeatLaw" 124 ⟨"BorrowedBeatModel", "paid", "(I)I"⟩ ∈ uw := muw mT7 88 rfl rfl
set_option maxRecDepth 100000 in
theorem m1613 : Cond.instanceMethod ⟨"BorrowedBeatModel", "paid", "(I)I"⟩ ∈ uw := muw mT7 89 rfl rfl
set_option maxRecDepth 100000 in
theorem m1614 : Cond.selects "BorrowedBeatModel" ⟨"BorrowedBeatModel", "paid", "(I)I"⟩ ⟨"BorrowedBeatModel", "paid", "(I)I"⟩ ∈ uw := muw mT7 90 rfl rfl
set_option maxRecDepth 100000 in
theorem m1615 : Cond.code ⟨"BorrowedBeatModel", "paid", "(I)I"⟩ prog_14_method_81_code 5 (Option.some ClassFile.FieldType.int) ∈ uw := muw mT7 91 rfl rfl
set_option maxRecDepth 100000 in
theorem m1616 : Cond.methodLink "BorrowedBeatModel" 352 ⟨"BorrowedBeatModel", "isAloneLast", "(I)Z"⟩ ∈ uw := muw mT7 92 rfl rfl
set_option maxRecDepth 100000 in
theorem m1618 : Cond.instanceMethod ⟨"BorrowedBeatModel", "isAloneLast", "(I)Z"⟩ ∈ uw := muw mT7 94 rfl rfl
set_option maxRecDepth 100000 in
theorem m1619 : Cond.code ⟨"BorrowedBeatModel", "isAloneLast", "(I)Z"⟩ prog_14_method_80_code 4 (Option.some ClassFile.FieldType.boolean) ∈ uw := muw mT7 95 rfl rfl
set_option maxRecDepth 100000 in
theorem m1620 : Cond.methodLink "BorrowedBeatLaw" 128 ⟨"BorrowedBeatModel", "roll", "(III)I"⟩ ∈ uw := muw mT7 96 rfl rfl
set_option maxRecDepth 100000 in
theorem m1621 : Cond.instanceMethod ⟨"BorrowedBeatModel", "roll", "(III)I"⟩ ∈ uw := muw mT7 97 rfl rfl
set_option maxRecDepth 100000 in
theorem m1622 : Cond.selects "BorrowedBeatModel" ⟨"BorrowedBeatModel", "roll", "(III)I"⟩ ⟨"BorrowedBeatModel", "roll", "(III)I"⟩ ∈ uw := muw mT7 98 rfl rfl
set_option maxRecDepth 100000 in
theorem m1623 : Cond.code ⟨"BorrowedBeatModel", "roll", "(III)I"⟩ prog_14_method_82_code 4 (Option.some ClassFile.FieldType.int) ∈ uw := muw mT7 99 rfl rfl
set_option maxRecDepth 100000 in
theorem m1624 : Cond.methodLink "BorrowedBeatLaw" 132 ⟨"BorrowedBeatModel", "fits", "(I)I"⟩ ∈ uw := muw mT7 100 rfl rfl
set_option maxRecDepth 100000 in
theorem m1625 : Cond.instanceMethod ⟨"BorrowedBeatModel", "fits", "(I)I"⟩ ∈ uw := muw mT7 101 rfl rfl
set_option maxRecDepth 100000 in
theorem m1626 : Cond.selects "BorrowedBeatModel" ⟨"BorrowedBeatModel", "fits", "(I)I"⟩ ⟨"BorrowedBeatModel", "fits", "(I)I"⟩ ∈ uw := muw mT7 102 rfl rfl
set_option maxRecDepth 100000 in
theorem m1627 : Cond.code ⟨"BorrowedBeatModel", "fits", "(I)I"⟩ prog_14_method_84_code 5 (Option.some ClassFile.FieldType.int) ∈ uw := muw mT7 103 rfl rfl
set_option maxRecDepth 100000 in
theorem m1628 : Cond.methodLink "BorrowedBeatModel" 355 ⟨"BorrowedBeatModel", "agrees", "()Z"⟩ ∈ uw := muw mT7 104 rfl rfl
set_option maxRecDepth 100000 in
theorem m1630 : Cond.instanceMethod ⟨"BorrowedBeatModel", "agrees", "()Z"⟩ ∈ uw := muw mT7 106 rfl rfl
set_option maxRecDepth 100000 in
theorem m1631 : Cond.code ⟨"BorrowedBeatModel", "agrees", "()Z"⟩ prog_14_method_83_code 2 (Option.some ClassFile.FieldType.boolean) ∈ uw := muw mT7 107 rfl rfl
set_option maxRecDepth 100000 in
theorem m1632 : Cond.methodLink "BorrowedBeatLaw" 136 ⟨"BorrowedBeatModel", "deaf", "(I)I"⟩ ∈ uw := muw mT7 108 rfl rfl
set_option maxRecDepth 100000 in
theorem m1633 : Cond.instanceMethod ⟨"BorrowedBeatModel", "deaf", "(I)I"⟩ ∈ uw := muw mT7 109 rfl rfl
set_option maxRecDepth 100000 in
theorem m1634 : Cond.selects "BorrowedBeatModel" ⟨"BorrowedBeatModel", "deaf", "(I)I"⟩ ⟨"BorrowedBeatModel", "deaf", "(I)I"⟩ ∈ uw := muw mT7 110 rfl rfl
set_option maxRecDepth 100000 in
theorem m1635 : Cond.code ⟨"BorrowedBeatModel", "deaf", "(I)I"⟩ prog_14_method_85_code 4 (Option.some ClassFile.FieldType.int) ∈ uw := muw mT7 111 rfl rfl
set_option maxRecDepth 100000 in
theorem m1636 : Cond.methodLink "BorrowedBeatLaw" 140 ⟨"BorrowedBeatModel", "echoes", "(I)I"⟩ ∈ uw := muw mT7 112 rfl rfl
set_option maxRecDepth 100000 in
theorem m1637 : Cond.instanceMethod ⟨"BorrowedBeatModel", "echoes", "(I)I"⟩ ∈ uw := muw mT7 113 rfl rfl
set_option maxRecDepth 100000 in
theorem m1638 : Cond.selects "BorrowedBeatModel" ⟨"BorrowedBeatModel", "echoes", "(I)I"⟩ ⟨"BorrowedBeatModel", "echoes", "(I)I"⟩ ∈ uw := muw mT7 114 rfl rfl
set_option maxRecDepth 100000 in
theorem m1639 : Cond.code ⟨"BorrowedBeatModel", "echoes", "(I)I"⟩ prog_14_method_86_code 7 (Option.some ClassFile.FieldType.int) ∈ uw := muw mT7 115 rfl rfl
set_option maxRecDepth 100000 in
theorem m1640 : Cond.methodLink "BorrowedBeatLaw" 144 ⟨"BorrowedBeatModel", "gift", "(I)I"⟩ ∈ uw := muw mT7 116 rfl rfl
set_option maxRecDepth 100000 in
theorem m1641 : Cond.instanceMethod ⟨"BorrowedBeatModel", "gift", "(I)I"⟩ ∈ uw := muw mT7 117 rfl rfl
set_option maxRecDepth 100000 in
theorem m1642 : Cond.selects "BorrowedBeatModel" ⟨"BorrowedBeatModel", "gift", "(I)I"⟩ ⟨"BorrowedBeatModel", "gift", "(I)I"⟩ ∈ uw := muw mT7 118 rfl rfl
set_option maxRecDepth 100000 in
theorem m1643 : Cond.code ⟨"BorrowedBeatModel", "gift", "(I)I"⟩ prog_14_method_87_code 7 (Option.some ClassFile.FieldType.int) ∈ uw := muw mT7 119 rfl rfl
set_option maxRecDepth 100000 in
theorem m1644 : Cond.methodLink "BorrowedBeatLaw" 148 ⟨"BorrowedBeatModel", "tune", "(II)I"⟩ ∈ uw := muw mT7 120 rfl rfl
set_option maxRecDepth 100000 in
theorem m1645 : Cond.instanceMethod ⟨"BorrowedBeatModel", "tune", "(II)I"⟩ ∈ uw := muw mT7 121 rfl rfl
set_option maxRecDepth 100000 in
theorem m1646 : Cond.selects "BorrowedBeatModel" ⟨"BorrowedBeatModel", "tune", "(II)I"⟩ ⟨"BorrowedBeatModel", "tune", "(II)I"⟩ ∈ uw := muw mT7 122 rfl rfl
set_option maxRecDepth 100000 in
theorem m1647 : Cond.code ⟨"BorrowedBeatModel", "tune", "(II)I"⟩ prog_14_method_88_code 8 (Option.some ClassFile.FieldType.int) ∈ uw := muw mT7 123 rfl rfl
set_option maxRecDepth 100000 in
theorem m1648 : Cond.methodLink "BorrowedBeatModel" 358 ⟨"java/lang/Math", "abs", "(I)I"⟩ ∈ uw := muw mT7 124 rfl rfl
set_option maxRecDepth 100000 in
theorem m1649 : Cond.methodLink "BorrowedBeatLaw" 152 ⟨"BorrowedBeatModel", "place", "(II)I"⟩ ∈ uw := muw mT7 125 rfl rfl
set_option maxRecDepth 100000 in
theorem m1650 : Cond.instanceMethod ⟨"BorrowedBeatModel", "place", "(II)I"⟩ ∈ uw := muw mT7 126 rfl rfl
set_option maxRecDepth 100000 in
theorem m1651 : Cond.selects "BorrowedBeatModel" ⟨"BorrowedBeatModel", "place", "(II)I"⟩ ⟨"BorrowedBeatModel", "place", "(II)I"⟩ ∈ uw := muw mT7 127 rfl rfl
set_option maxRecDepth 100000 in
theorem m1652 : Cond.code ⟨"BorrowedBeatModel", "place", "(II)I"⟩ prog_14_method_89_code 7 (Option.some ClassFile.FieldType.int) ∈ uw := muw mT7 128 rfl rfl
set_option maxRecDepth 100000 in
theorem m1653 : Cond.methodLink "BorrowedBeatLaw" 156 ⟨"BorrowedBeatModel", "overtakes", "(II)I"⟩ ∈ uw := muw mT7 129 rfl rfl
set_option maxRecDepth 100000 in
theorem m1654 : Cond.instanceMethod ⟨"BorrowedBeatModel", "overtakes", "(II)I"⟩ ∈ uw := muw mT7 130 rfl rfl
set_option maxRecDepth 100000 in
theorem m1655 : Cond.selects "BorrowedBeatModel" ⟨"BorrowedBeatModel", "overtakes", "(II)I"⟩ ⟨"BorrowedBeatModel", "overtakes", "(II)I"⟩ ∈ uw := muw mT7 131 rfl rfl
set_option maxRecDepth 100000 in
theorem m1656 : Cond.code ⟨"BorrowedBeatModel", "overtakes", "(II)I"⟩ prog_14_method_91_code 6 (Option.some ClassFile.FieldType.int) ∈ uw := muw mT7 132 rfl rfl
set_option maxRecDepth 100000 in
theorem m1657 : Cond.methodLink "BorrowedBeatModel" 365 ⟨"BorrowedBeatModel", "aheadAt", "(III)I"⟩ ∈ uw := muw mT7 133 rfl rfl
set_option maxRecDepth 100000 in
theorem m1659 : Cond.instanceMethod ⟨"BorrowedBeatModel", "aheadAt", "(III)I"⟩ ∈ uw := muw mT7 135 rfl rfl
set_option maxRecDepth 100000 in
theorem m1660 : Cond.code ⟨"BorrowedBeatModel", "aheadAt", "(III)I"⟩ prog_14_method_90_code 4 (Option.some ClassFile.FieldType.int) ∈ uw := muw mT7 136 rfl rfl
set_option maxRecDepth 100000 in
theorem m1661 : Cond.methodLink "BorrowedBeatModel" 361 ⟨"java/lang/Integer", "compare", "(II)I"⟩ ∈ uw := muw mT7 137 rfl rfl
set_option maxRecDepth 100000 in
theorem m1662 : Cond.methodLink "BorrowedBeatLaw" 160 ⟨"BorrowedBeatModel", "middle", "()I"⟩ ∈ uw := muw mT7 138 rfl rfl
set_option maxRecDepth 100000 in
theorem m1663 : Cond.instanceMethod ⟨"BorrowedBeatModel", "middle", "()I"⟩ ∈ uw := muw mT7 139 rfl rfl
set_option maxRecDepth 100000 in
theorem m1664 : Cond.selects "BorrowedBeatModel" ⟨"BorrowedBeatModel", "middle", "()I"⟩ ⟨"BorrowedBeatModel", "middle", "()I"⟩ ∈ uw := muw mT7 140 rfl rfl
set_option maxRecDepth 100000 in
theorem m1665 : Cond.code ⟨"BorrowedBeatModel", "middle", "()I"⟩ prog_14_method_92_code 6 (Option.some ClassFile.FieldType.int) ∈ uw := muw mT7 141 rfl rfl
set_option maxRecDepth 100000 in
theorem m1666 : Cond.methodLink "BorrowedBeatLaw" 164 ⟨"BorrowedBeatModel", "ends", "(I)I"⟩ ∈ uw := muw mT7 142 rfl rfl
set_option maxRecDepth 100000 in
theorem m1667 : Cond.instanceMethod ⟨"BorrowedBeatModel", "ends", "(I)I"⟩ ∈ uw := muw mT7 143 rfl rfl
set_option maxRecDepth 100000 in
theorem m1668 : Cond.selects "BorrowedBeatModel" ⟨"BorrowedBeatModel", "ends", "(I)I"⟩ ⟨"BorrowedBeatModel", "ends", "(I)I"⟩ ∈ uw := muw mT7 144 rfl rfl
set_option maxRecDepth 100000 in
theorem m1669 : Cond.code ⟨"BorrowedBeatModel", "ends", "(I)I"⟩ prog_14_method_93_code 3 (Option.some ClassFile.FieldType.int) ∈ uw := muw mT7 145 rfl rfl
set_option maxRecDepth 100000 in
theorem m1670 : Cond.methodLink "BorrowedBeatLaw" 168 ⟨"BorrowedBeatModel", "stray", "(II)I"⟩ ∈ uw := muw mT7 146 rfl rfl
set_option maxRecDepth 100000 in
theorem m1671 : Cond.instanceMethod ⟨"BorrowedBeatModel", "stray", "(II)I"⟩ ∈ uw := muw mT7 147 rfl rfl
set_option maxRecDepth 100000 in
theorem m1672 : Cond.selects "BorrowedBeatModel" ⟨"BorrowedBeatModel", "stray", "(II)I"⟩ ⟨"BorrowedBeatModel", "stray", "(II)I"⟩ ∈ uw := muw mT7 148 rfl rfl
set_option maxRecDepth 100000 in
theorem m1673 : Cond.code ⟨"BorrowedBeatModel", "stray", "(II)I"⟩ prog_14_method_94_code 4 (Option.some ClassFile.FieldType.int) ∈ uw := muw mT7 149 rfl rfl
set_option maxRecDepth 100000 in
theorem m1674 : Cond.methodLink "BorrowedBeatLaw" 172 ⟨"BorrowedBeatModel", "image", "()I"⟩ ∈ uw := muw mT7 150 rfl rfl
set_option maxRecDepth 100000 in
theorem m1675 : Cond.instanceMethod ⟨"BorrowedBeatModel", "image", "()I"⟩ ∈ uw := muw mT7 151 rfl rfl
set_option maxRecDepth 100000 in
theorem m1676 : Cond.selects "BorrowedBeatModel" ⟨"BorrowedBeatModel", "image", "()I"⟩ ⟨"BorrowedBeatModel", "image", "()I"⟩ ∈ uw := muw mT7 152 rfl rfl
set_option maxRecDepth 100000 in
theorem m1677 : Cond.code ⟨"BorrowedBeatModel", "image", "()I"⟩ prog_14_method_95_code 2 (Option.some ClassFile.FieldType.int) ∈ uw := muw mT7 153 rfl rfl
set_option maxRecDepth 100000 in
theorem m1678 : Cond.methodLink "BorrowedBeatLaw" 176 ⟨"BorrowedBeatModel", "back", "()I"⟩ ∈ uw := muw mT7 154 rfl rfl
set_option maxRecDepth 100000 in
theorem m1679 : Cond.instanceMethod ⟨"BorrowedBeatModel", "back", "()I"⟩ ∈ uw := muw mT7 155 rfl rfl
set_option maxRecDepth 100000 in
theorem m1680 : Cond.selects "BorrowedBeatModel" ⟨"BorrowedBeatModel", "back", "()I"⟩ ⟨"BorrowedBeatModel", "back", "()I"⟩ ∈ uw := muw mT7 156 rfl rfl
set_option maxRecDepth 100000 in
theorem m1681 : Cond.code ⟨"BorrowedBeatModel", "back", "()I"⟩ prog_14_method_96_code 2 (Option.some ClassFile.FieldType.int) ∈ uw := muw mT7 157 rfl rfl
set_option maxRecDepth 100000 in
theorem m1682 : Cond.methodLink "BorrowedBeatLaw" 180 ⟨"BorrowedBeatModel", "count", "(I)I"⟩ ∈ uw := muw mT7 158 rfl rfl
set_option maxRecDepth 100000 in
theorem m1683 : Cond.instanceMethod ⟨"BorrowedBeatModel", "count", "(I)I"⟩ ∈ uw := muw mT7 159 rfl rfl
set_option maxRecDepth 100000 in
theorem m1684 : Cond.selects "BorrowedBeatModel" ⟨"BorrowedBeatModel", "count", "(I)I"⟩ ⟨"BorrowedBeatModel", "count", "(I)I"⟩ ∈ uw := muw mT7 160 rfl rfl
set_option maxRecDepth 100000 in
theorem m1685 : Cond.code ⟨"BorrowedBeatModel", "count", "(I)I"⟩ prog_14_method_97_code 2 (Option.some ClassFile.FieldType.int) ∈ uw := muw mT7 161 rfl rfl
set_option maxRecDepth 100000 in
theorem m1686 : Cond.arrayClass ClassFile.FieldType.long ∈ uw := muw mT7 162 rfl rfl
set_option maxRecDepth 100000 in
theorem m1687 : Cond.sameMethod "BorrowedBeat$Reader" "BorrowedBeat$Reader" "fail" "()Z" ∈ uw := muw mT7 163 rfl rfl
set_option maxRecDepth 100000 in
theorem m1688 : Cond.selects "BorrowedBeat$LawReader" ⟨"BorrowedBeat$Reader", "fail", "()Z"⟩ ⟨"BorrowedBeat$Reader", "fail", "()Z"⟩ ∈ uw := muw mT7 164 rfl rfl
set_option maxRecDepth 100000 in
theorem m1689 : Cond.selects "BorrowedBeat$TownReader" ⟨"BorrowedBeat$Reader", "fail", "()Z"⟩ ⟨"BorrowedBeat$Reader", "fail", "()Z"⟩ ∈ uw := muw mT7 165 rfl rfl
set_option maxRecDepth 100000 in
theorem m1690 : Cond.sameMethod "BorrowedBeat$Reader" "BorrowedBeat$Reader" "nextClause" "()Z" ∈ uw := muw mT7 166 rfl rfl
set_option maxRecDepth 100000 in
theorem m1691 : Cond.sameMethod "BorrowedBeat$Reader" "BorrowedBeat$Reader" "take" "(I)Z" ∈ uw := muw mT7 167 rfl rfl
set_option maxRecDepth 100000 in
theorem m1692 : Cond.selects "BorrowedBeat$LawReader" ⟨"BorrowedBeat$Reader", "take", "(I)Z"⟩ ⟨"BorrowedBeat$Reader", "take", "(I)Z"⟩ ∈ uw := muw mT7 168 rfl rfl
set_option maxRecDepth 100000 in
theorem m1693 : Cond.selects "BorrowedBeat$TownReader" ⟨"BorrowedBeat$Reader", "take", "(I)Z"⟩ ⟨"BorrowedBeat$Reader", "take", "(I)Z"⟩ ∈ uw := muw mT7 169 rfl rfl
theorem okd_yX7_init : okD yX7_init 0 := ⟨by decide +kernel, by decide +kernel, by decide +kernel⟩
theorem okd_yX9_init : okD yX9_init 1 := ⟨by decide +kernel, by decide +kernel, by decide +kernel⟩
theorem okd_yX2_init : okD yX2_init 1 := ⟨by decide +kernel, by decide +kernel, by decide +kernel⟩
theorem okd_yX8_init : okD yX8_init 0 := ⟨by decide +kernel, by decide +kernel, by decide +kernel⟩
theorem okd_yX0_init : okD yX0_init 0 := ⟨by decide +kernel, by decide +kernel, by decide +kernel⟩
theorem okd_yX6_init : okD yX6_init 0 := ⟨by decide +kernel, by decide +kernel, by decide +kernel⟩
theorem okd_yX4_init : okD yX4_init 0 := ⟨by decide +kernel, by decide +kernel, by decide +kernel⟩
theorem okd_yX3_init : okD yX3_init 0 := ⟨by decide +kernel, by decide +kernel, by decide +kernel⟩
theorem okd_yX10_init : okD yX10_init 2 := ⟨by decide +kernel, by decide +kernel, by decide +kernel⟩
theorem okd_yX7_bytesIn : okD yX7_bytesIn 1 := ⟨by decide +kernel, by decide +kernel, by decide +kernel⟩
theorem okd_yX7_push : okD yX7_push 1 := ⟨by decide +kernel, by decide +kernel, by decide +kernel⟩
theorem okd___BorrowedBeat_Reader____read______I__ : okD ⟨"BorrowedBeat$Reader", "read", "()I"⟩ 0 := ⟨by decide +kernel, by decide +kernel, by decide +kernel⟩
theorem okd_yX11_openTown : okD yX11_openTown 0 := ⟨by decide +kernel, by decide +kernel, by decide +kernel⟩
theorem okd_yX2_toLaw : okD yX2_toLaw 0 := ⟨by decide +kernel, by decide +kernel, by decide +kernel⟩
theorem okd_yX8_copyFrom : okD yX8_copyFrom 1 := ⟨by decide +kernel, by decide +kernel, by decide +kernel⟩
theorem okd_yX6_open : okD yX6_open 1 := ⟨by decide +kernel, by decide +kernel, by decide +kernel⟩
theorem okd_yX0_open : okD yX0_open 0 := ⟨by decide +kernel, by decide +kernel, by decide +kernel⟩
theorem okd_yX1_forget : okD yX1_forget 0 := ⟨by decide +kernel, by decide +kernel, by decide +kernel⟩
theorem okd_yX11_isPlayer : okD yX11_isPlayer 1 := ⟨by decide +kernel, by decide +kernel, by decide +kernel⟩
theorem okd_yX11_mostOf : okD yX11_mostOf 1 := ⟨by decide +kernel, by decide +kernel, by decide +kernel⟩
theorem okd_yX11_mayTell : okD yX11_mayTell 3 := ⟨by decide +kernel, by decide +kernel, by decide +kernel⟩
theorem okd_yX6_isMarked : okD yX6_isMarked 1 := ⟨by decide +kernel, by decide +kernel, by decide +kernel⟩
theorem okd_yX11_wetness : okD yX11_wetness 1 := ⟨by decide +kernel, by decide +kernel, by decide +kernel⟩
theorem okd_yX1_wetness : okD yX1_wetness 2 := ⟨by decide +kernel, by decide +kernel, by decide +kernel⟩
theorem okd_yX0_keep : okD yX0_keep 1 := ⟨by decide +kernel, by decide +kernel, by decide +kernel⟩
theorem okd_yX8_goThroughDay : okD yX8_goThroughDay 3 := ⟨by decide +kernel, by decide +kernel, by decide +kernel⟩
theorem okd_yX0_takeBack : okD yX0_takeBack 1 := ⟨by decide +kernel, by decide +kernel, by decide +kernel⟩
theorem okd_yX0_takeImage : okD yX0_takeImage 1 := ⟨by decide +kernel, by decide +kernel, by decide +kernel⟩
theorem okd_yX0_comeBack : okD yX0_comeBack 1 := ⟨by decide +kernel, by decide +kernel, by decide +kernel⟩
theorem okd_yX11_isBar : okD yX11_isBar 1 := ⟨by decide +kernel, by decide +kernel, by decide +kernel⟩
theorem okd_yX4_perform : okD yX4_perform 2 := ⟨by decide +kernel, by decide +kernel, by decide +kernel⟩
theorem okd_yX4_aheadOfWaiting : okD yX4_aheadOfWaiting 2 := ⟨by decide +kernel, by decide +kernel, by decide +kernel⟩
theorem okd_yX4_behindWaiting : okD yX4_behindWaiting 2 := ⟨by decide +kernel, by decide +kernel, by decide +kernel⟩
theorem okd_yX4_beatIn : okD yX4_beatIn 2 := ⟨by decide +kernel, by decide +kernel, by decide +kernel⟩
theorem okd_yX11_isOneOfTwo : okD yX11_isOneOfTwo 1 := ⟨by decide +kernel, by decide +kernel, by decide +kernel⟩
theorem okd_yX4_firstSpreadAbove : okD yX4_firstSpreadAbove 1 := ⟨by decide +kernel, by decide +kernel, by decide +kernel⟩
theorem okd_yX4_lastIn : okD yX4_lastIn 1 := ⟨by decide +kernel, by decide +kernel, by decide +kernel⟩
theorem okd_yX4_settles : okD yX4_settles 1 := ⟨by decide +kernel, by decide +kernel, by decide +kernel⟩
theorem okd_yX4_inPlace : okD yX4_inPlace 2 := ⟨by decide +kernel, by decide +kernel, by decide +kernel⟩
theorem okd_yX4_turns : okD yX4_turns 2 := ⟨by decide +kernel, by decide +kernel, by decide +kernel⟩
theorem okd_yX4_innermost : okD yX4_innermost 0 := ⟨by decide +kernel, by decide +kernel, by decide +kernel⟩
theorem okd_yX4_greatestIn : okD yX4_greatestIn 1 := ⟨by decide +kernel, by decide +kernel, by decide +kernel⟩
theorem okd_yX4_firstChange : okD yX4_firstChange 2 := ⟨by decide +kernel, by decide +kernel, by decide +kernel⟩
theorem okd_yX6_aheadOf : okD yX6_aheadOf 2 := ⟨by decide +kernel, by decide +kernel, by decide +kernel⟩
theorem okd_yX6_copyFrom : okD yX6_copyFrom 1 := ⟨by decide +kernel, by decide +kernel, by decide +kernel⟩
theorem okd_yX11_isToldSo : okD yX11_isToldSo 0 := ⟨by decide +kernel, by decide +kernel, by decide +kernel⟩
theorem okd_yX4_isAloneLast : okD yX4_isAloneLast 2 := ⟨by decide +kernel, by decide +kernel, by decide +kernel⟩
theorem okd_yX3_find : okD yX3_find 3 := ⟨by decide +kernel, by decide +kernel, by decide +kernel⟩
theorem okd_yX10_find : okD yX10_find 2 := ⟨by decide +kernel, by decide +kernel, by decide +kernel⟩
theorem okd_yX8_drifted : okD yX8_drifted 4 := ⟨by decide +kernel, by decide +kernel, by decide +kernel⟩
theorem okd_yX11_rowsWithSum : okD yX11_rowsWithSum 2 := ⟨by decide +kernel, by decide +kernel, by decide +kernel⟩
theorem okd_yJ9_min_7cf53 : okD yJ9_min_7cf53 2 := ⟨by decide +kernel, by decide +kernel, by decide +kernel⟩
theorem okd_yX1_worth : okD yX1_worth 3 := ⟨by decide +kernel, by decide +kernel, by decide +kernel⟩
theorem okd_yX11_held : okD yX11_held 3 := ⟨by decide +kernel, by decide +kernel, by decide +kernel⟩
theorem okd_yX1_push : okD yX1_push 1 := ⟨by decide +kernel, by decide +kernel, by decide +kernel⟩
theorem okd_yX1_pop : okD yX1_pop 0 := ⟨by decide +kernel, by decide +kernel, by decide +kernel⟩
theorem okd_yX1_work : okD yX1_work 4 := ⟨by decide +kernel, by decide +kernel, by decide +kernel⟩
theorem okd_yX1_joined : okD yX1_joined 3 := ⟨by decide +kernel, by decide +kernel, by decide +kernel⟩
theorem okd_yJ9_min_f86c9 : okD yJ9_min_f86c9 2 := ⟨by decide +kernel, by decide +kernel, by decide +kernel⟩
theorem okd_yJ9_max_f86c9 : okD yJ9_max_f86c9 2 := ⟨by decide +kernel, by decide +kernel, by decide +kernel⟩
theorem okd_yX5_init : okD yX5_init 1 := ⟨by decide +kernel, by decide +kernel, by decide +kernel⟩
theorem okd_yJ7_copyOf_59c91 : okD yJ7_copyOf_59c91 2 := ⟨by decide +kernel, by decide +kernel, by decide +kernel⟩
theorem okd_yX1_init : okD yX1_init 1 := ⟨by decide +kernel, by decide +kernel, by decide +kernel⟩
theorem okd___BorrowedBeat_Reader____take_____I_Z__ : okD ⟨"BorrowedBeat$Reader", "take", "(I)Z"⟩ 1 := ⟨by decide +kernel, by decide +kernel, by decide +kernel⟩
theorem okd___BorrowedBeat_Reader____fail______Z__ : okD ⟨"BorrowedBeat$Reader", "fail", "()Z"⟩ 0 := ⟨by decide +kernel, by decide +kernel, by decide +kernel⟩
theorem okd___BorrowedBeat_Reader____peek______I__ : okD ⟨"BorrowedBeat$Reader", "peek", "()I"⟩ 0 := ⟨by decide +kernel, by decide +kernel, by decide +kernel⟩
theorem okd_yX2_condition : okD yX2_condition 1 := ⟨by decide +kernel, by decide +kernel, by decide +kernel⟩
theorem okd_yX2_sumBehindCondition : okD yX2_sumBehindCondition 0 := ⟨by decide +kernel, by decide +kernel, by decide +kernel⟩
theorem okd_yX2_sum : okD yX2_sum 1 := ⟨by decide +kernel, by decide +kernel, by decide +kernel⟩
theorem okd_yX2_isComparison : okD yX2_isComparison 1 := ⟨by decide +kernel, by decide +kernel, by decide +kernel⟩
theorem okd_yX2_emit : okD yX2_emit 1 := ⟨by decide +kernel, by decide +kernel, by decide +kernel⟩
theorem okd_yX2_comparison : okD yX2_comparison 1 := ⟨by decide +kernel, by decide +kernel, by decide +kernel⟩
theorem okd_yX2_moreUnits : okD yX2_moreUnits 1 := ⟨by decide +kernel, by decide +kernel, by decide +kernel⟩
theorem okd_yX2_unit : okD yX2_unit 1 := ⟨by decide +kernel, by decide +kernel, by decide +kernel⟩
theorem okd_yX2_negated : okD yX2_negated 1 := ⟨by decide +kernel, by decide +kernel, by decide +kernel⟩
theorem okd_yX2_atom : okD yX2_atom 1 := ⟨by decide +kernel, by decide +kernel, by decide +kernel⟩
theorem okd_yX5_isDigit : okD yX5_isDigit 1 := ⟨by decide +kernel, by decide +kernel, by decide +kernel⟩
theorem okd___BorrowedBeat_Reader____readNumber_____III_I__ : okD ⟨"BorrowedBeat$Reader", "readNumber", "(III)I"⟩ 3 := ⟨by decide +kernel, by decide +kernel, by decide +kernel⟩
theorem okd_yJ7_fill_53178 : okD yJ7_fill_53178 2 := ⟨by decide +kernel, by decide +kernel, by decide +kernel⟩
theorem okd_yX3_goOnFrom : okD yX3_goOnFrom 4 := ⟨by decide +kernel, by decide +kernel, by decide +kernel⟩
theorem okd_yX3_spreadBehind : okD yX3_spreadBehind 3 := ⟨by decide +kernel, by decide +kernel, by decide +kernel⟩
theorem okd_yX3_endBetter : okD yX3_endBetter 2 := ⟨by decide +kernel, by decide +kernel, by decide +kernel⟩
theorem okd_yX3_markBetter : okD yX3_markBetter 3 := ⟨by decide +kernel, by decide +kernel, by decide +kernel⟩
theorem okd_yJ9_max_7cf53 : okD yJ9_max_7cf53 2 := ⟨by decide +kernel, by decide +kernel, by decide +kernel⟩
theorem okd_yX4_open : okD yX4_open 1 := ⟨by decide +kernel, by decide +kernel, by decide +kernel⟩
theorem okd_yX4_goOn : okD yX4_goOn 2 := ⟨by decide +kernel, by decide +kernel, by decide +kernel⟩
theorem okd_yX4_playBar : okD yX4_playBar 2 := ⟨by decide +kernel, by decide +kernel, by decide +kernel⟩
theorem okd_yX4_placeOf : okD yX4_placeOf 2 := ⟨by decide +kernel, by decide +kernel, by decide +kernel⟩
theorem okd_yX4_order : okD yX4_order 3 := ⟨by decide +kernel, by decide +kernel, by decide +kernel⟩
theorem okd_yJ6_compare_7cf53 : okD yJ6_compare_7cf53 2 := ⟨by decide +kernel, by decide +kernel, by decide +kernel⟩
theorem okd_yX4_apartFromAll : okD yX4_apartFromAll 2 := ⟨by decide +kernel, by decide +kernel, by decide +kernel⟩
theorem okd_yJ9_abs_0f7a4 : okD yJ9_abs_0f7a4 1 := ⟨by decide +kernel, by decide +kernel, by decide +kernel⟩
theorem okd_yX4_soundsLike : okD yX4_soundsLike 2 := ⟨by decide +kernel, by decide +kernel, by decide +kernel⟩
theorem okd___BorrowedBeat_Reader____clear______V__ : okD ⟨"BorrowedBeat$Reader", "clear", "()V"⟩ 0 := ⟨by decide +kernel, by decide +kernel, by decide +kernel⟩
theorem okd___BorrowedBeat_Reader____readClause______Z__ : okD ⟨"BorrowedBeat$Reader", "readClause", "()Z"⟩ 0 := ⟨by decide +kernel, by decide +kernel, by decide +kernel⟩
theorem okd___BorrowedBeat_Reader____nextClause______Z__ : okD ⟨"BorrowedBeat$Reader", "nextClause", "()Z"⟩ 0 := ⟨by decide +kernel, by decide +kernel, by decide +kernel⟩
theorem okd___BorrowedBeat_Reader____isWhole______Z__ : okD ⟨"BorrowedBeat$Reader", "isWhole", "()Z"⟩ 0 := ⟨by decide +kernel, by decide +kernel, by decide +kernel⟩
theorem okd_yX8_clear : okD yX8_clear 0 := ⟨by decide +kernel, by decide +kernel, by decide +kernel⟩
theorem okd_yX8_addPlayer : okD yX8_addPlayer 0 := ⟨by decide +kernel, by decide +kernel, by decide +kernel⟩
theorem okd_yX9_readItems : okD yX9_readItems 1 := ⟨by decide +kernel, by decide +kernel, by decide +kernel⟩
theorem okd_yX9_itemOf : okD yX9_itemOf 1 := ⟨by decide +kernel, by decide +kernel, by decide +kernel⟩
theorem okd_yX9_keep : okD yX9_keep 3 := ⟨by decide +kernel, by decide +kernel, by decide +kernel⟩
theorem okd_yX8_put : okD yX8_put 3 := ⟨by decide +kernel, by decide +kernel, by decide +kernel⟩
theorem okd_yX10_foresee : okD yX10_foresee 2 := ⟨by decide +kernel, by decide +kernel, by decide +kernel⟩
theorem okd_yX10_slot : okD yX10_slot 2 := ⟨by decide +kernel, by decide +kernel, by decide +kernel⟩
theorem okd_yX10_choose : okD yX10_choose 5 := ⟨by decide +kernel, by decide +kernel, by decide +kernel⟩
theorem okd_yX10_weigh : okD yX10_weigh 1 := ⟨by decide +kernel, by decide +kernel, by decide +kernel⟩
theorem okd_yX11_player : okD yX11_player 2 := ⟨by decide +kernel, by decide +kernel, by decide +kernel⟩
theorem okd_yX11_init : okD yX11_init 0 := ⟨by decide +kernel, by decide +kernel, by decide +kernel⟩
theorem okd_yX12_init : okD yX12_init 0 := ⟨by decide +kernel, by decide +kernel, by decide +kernel⟩
theorem okd_yX11_feed : okD yX11_feed 5 := ⟨by decide +kernel, by decide +kernel, by decide +kernel⟩
theorem okd_yX12_feed : okD yX12_feed 5 := ⟨by decide +kernel, by decide +kernel, by decide +kernel⟩
theorem okd_yX11_end : okD yX11_end 1 := ⟨by decide +kernel, by decide +kernel, by decide +kernel⟩
theorem okd_yX12_end : okD yX12_end 1 := ⟨by decide +kernel, by decide +kernel, by decide +kernel⟩
theorem okd_yX11_fault : okD yX11_fault 1 := ⟨by decide +kernel, by decide +kernel, by decide +kernel⟩
theorem okd_yX12_fault : okD yX12_fault 1 := ⟨by decide +kernel, by decide +kernel, by decide +kernel⟩
theorem okd_yX11_text : okD yX11_text 1 := ⟨by decide +kernel, by decide +kernel, by decide +kernel⟩
theorem okd_yX12_text : okD yX12_text 1 := ⟨by decide +kernel, by decide +kernel, by decide +kernel⟩
theorem okd_yX12_player : okD yX12_player 2 := ⟨by decide +kernel, by decide +kernel, by decide +kernel⟩
theorem okd_yX11_set : okD yX11_set 2 := ⟨by decide +kernel, by decide +kernel, by decide +kernel⟩
theorem okd_yX12_set : okD yX12_set 2 := ⟨by decide +kernel, by decide +kernel, by decide +kernel⟩
theorem okd_yX11_tell : okD yX11_tell 3 := ⟨by decide +kernel, by decide +kernel, by decide +kernel⟩
theorem okd_yX12_tell : okD yX12_tell 3 := ⟨by decide +kernel, by decide +kernel, by decide +kernel⟩
theorem okd_yX11_mark : okD yX11_mark 2 := ⟨by decide +kernel, by decide +kernel, by decide +kernel⟩
theorem okd_yX12_mark : okD yX12_mark 2 := ⟨by decide +kernel, by decide +kernel, by decide +kernel⟩
theorem okd_yX11_damp : okD yX11_damp 1 := ⟨by decide +kernel, by decide +kernel, by decide +kernel⟩
theorem okd_yX12_damp : okD yX12_damp 1 := ⟨by decide +kernel, by decide +kernel, by decide +kernel⟩
theorem okd_yX11_day : okD yX11_day 1 := ⟨by decide +kernel, by decide +kernel, by decide +kernel⟩
theorem okd_yX12_day : okD yX12_day 1 := ⟨by decide +kernel, by decide +kernel, by decide +kernel⟩
theorem okd_yX11_undo : okD yX11_undo 0 := ⟨by decide +kernel, by decide +kernel, by decide +kernel⟩
theorem okd_yX12_undo : okD yX12_undo 0 := ⟨by decide +kernel, by decide +kernel, by decide +kernel⟩
theorem okd_yX11_time : okD yX11_time 3 := ⟨by decide +kernel, by decide +kernel, by decide +kernel⟩
theorem okd_yX12_time : okD yX12_time 3 := ⟨by decide +kernel, by decide +kernel, by decide +kernel⟩
theorem okd_yX11_spread : okD yX11_spread 1 := ⟨by decide +kernel, by decide +kernel, by decide +kernel⟩
theorem okd_yX12_spread : okD yX12_spread 1 := ⟨by decide +kernel, by decide +kernel, by decide +kernel⟩
theorem okd_yX11_worst : okD yX11_worst 1 := ⟨by decide +kernel, by decide +kernel, by decide +kernel⟩
theorem okd_yX12_worst : okD yX12_worst 1 := ⟨by decide +kernel, by decide +kernel, by decide +kernel⟩
theorem okd_yX11_parts : okD yX11_parts 0 := ⟨by decide +kernel, by decide +kernel, by decide +kernel⟩
theorem okd_yX12_parts : okD yX12_parts 0 := ⟨by decide +kernel, by decide +kernel, by decide +kernel⟩
theorem okd_yX11_last : okD yX11_last 1 := ⟨by decide +kernel, by decide +kernel, by decide +kernel⟩
theorem okd_yX12_last : okD yX12_last 1 := ⟨by decide +kernel, by decide +kernel, by decide +kernel⟩
theorem okd_yX11_settle : okD yX11_settle 1 := ⟨by decide +kernel, by decide +kernel, by decide +kernel⟩
theorem okd_yX12_settle : okD yX12_settle 1 := ⟨by decide +kernel, by decide +kernel, by decide +kernel⟩
theorem okd_yX11_ring : okD yX11_ring 1 := ⟨by decide +kernel, by decide +kernel, by decide +kernel⟩
theorem okd_yX12_ring : okD yX12_ring 1 := ⟨by decide +kernel, by decide +kernel, by decide +kernel⟩
theorem okd_yX11_head : okD yX11_head 1 := ⟨by decide +kernel, by decide +kernel, by decide +kernel⟩
theorem okd_yX12_head : okD yX12_head 1 := ⟨by decide +kernel, by decide +kernel, by decide +kernel⟩
theorem okd_yX11_week : okD yX11_week 1 := ⟨by decide +kernel, by decide +kernel, by decide +kernel⟩
theorem okd_yX12_week : okD yX12_week 1 := ⟨by decide +kernel, by decide +kernel, by decide +kernel⟩
theorem okd_yX11_leader : okD yX11_leader 2 := ⟨by decide +kernel, by decide +kernel, by decide +kernel⟩
theorem okd_yX12_leader : okD yX12_leader 2 := ⟨by decide +kernel, by decide +kernel, by decide +kernel⟩
theorem okd_yX11_marks : okD yX11_marks 1 := ⟨by decide +kernel, by decide +kernel, by decide +kernel⟩
theorem okd_yX12_marks : okD yX12_marks 1 := ⟨by decide +kernel, by decide +kernel, by decide +kernel⟩
theorem okd_yX11_odds : okD yX11_odds 2 := ⟨by decide +kernel, by decide +kernel, by decide +kernel⟩
theorem okd_yX12_odds : okD yX12_odds 2 := ⟨by decide +kernel, by decide +kernel, by decide +kernel⟩
theorem okd_yX11_paid : okD yX11_paid 1 := ⟨by decide +kernel, by decide +kernel, by decide +kernel⟩
theorem okd_yX12_paid : okD yX12_paid 1 := ⟨by decide +kernel, by decide +kernel, by decide +kernel⟩
theorem okd_yX11_roll : okD yX11_roll 3 := ⟨by decide +kernel, by decide +kernel, by decide +kernel⟩
theorem okd_yX12_roll : okD yX12_roll 3 := ⟨by decide +kernel, by decide +kernel, by decide +kernel⟩
theorem okd_yX11_fits : okD yX11_fits 1 := ⟨by decide +kernel, by decide +kernel, by decide +kernel⟩
theorem okd_yX12_fits : okD yX12_fits 1 := ⟨by decide +kernel, by decide +kernel, by decide +kernel⟩
theorem okd_yX11_deaf : okD yX11_deaf 1 := ⟨by decide +kernel, by decide +kernel, by decide +kernel⟩
theorem okd_yX12_deaf : okD yX12_deaf 1 := ⟨by decide +kernel, by decide +kernel, by decide +kernel⟩
theorem okd_yX11_echoes : okD yX11_echoes 1 := ⟨by decide +kernel, by decide +kernel, by decide +kernel⟩
theorem okd_yX12_echoes : okD yX12_echoes 1 := ⟨by decide +kernel, by decide +kernel, by decide +kernel⟩
theorem okd_yX11_gift : okD yX11_gift 1 := ⟨by decide +kernel, by decide +kernel, by decide +kernel⟩
theorem okd_yX12_gift : okD yX12_gift 1 := ⟨by decide +kernel, by decide +kernel, by decide +kernel⟩
theorem okd_yX11_tune : okD yX11_tune 2 := ⟨by decide +kernel, by decide +kernel, by decide +kernel⟩
theorem okd_yX12_tune : okD yX12_tune 2 := ⟨by decide +kernel, by decide +kernel, by decide +kernel⟩
theorem okd_yX11_place : okD yX11_place 2 := ⟨by decide +kernel, by decide +kernel, by decide +kernel⟩
theorem okd_yX12_place : okD yX12_place 2 := ⟨by decide +kernel, by decide +kernel, by decide +kernel⟩
theorem okd_yX11_overtakes : okD yX11_overtakes 2 := ⟨by decide +kernel, by decide +kernel, by decide +kernel⟩
theorem okd_yX12_overtakes : okD yX12_overtakes 2 := ⟨by decide +kernel, by decide +kernel, by decide +kernel⟩
theorem okd_yX11_middle : okD yX11_middle 0 := ⟨by decide +kernel, by decide +kernel, by decide +kernel⟩
theorem okd_yX12_middle : okD yX12_middle 0 := ⟨by decide +kernel, by decide +kernel, by decide +kernel⟩
theorem okd_yX11_ends : okD yX11_ends 1 := ⟨by decide +kernel, by decide +kernel, by decide +kernel⟩
theorem okd_yX12_ends : okD yX12_ends 1 := ⟨by decide +kernel, by decide +kernel, by decide +kernel⟩
theorem okd_yX11_stray : okD yX11_stray 2 := ⟨by decide +kernel, by decide +kernel, by decide +kernel⟩
theorem okd_yX12_stray : okD yX12_stray 2 := ⟨by decide +kernel, by decide +kernel, by decide +kernel⟩
theorem okd_yX11_image : okD yX11_image 0 := ⟨by decide +kernel, by decide +kernel, by decide +kernel⟩
theorem okd_yX12_image : okD yX12_image 0 := ⟨by decide +kernel, by decide +kernel, by decide +kernel⟩
theorem okd_yX11_back : okD yX11_back 0 := ⟨by decide +kernel, by decide +kernel, by decide +kernel⟩
theorem okd_yX12_back : okD yX12_back 0 := ⟨by decide +kernel, by decide +kernel, by decide +kernel⟩
theorem okd_yX11_count : okD yX11_count 1 := ⟨by decide +kernel, by decide +kernel, by decide +kernel⟩
theorem okd_yX12_count : okD yX12_count 1 := ⟨by decide +kernel, by decide +kernel, by decide +kernel⟩
theorem okd_yX12_byteOf : okD yX12_byteOf 6 := ⟨by decide +kernel, by decide +kernel, by decide +kernel⟩
theorem okd_yX12_here : okD yX12_here 0 := ⟨by decide +kernel, by decide +kernel, by decide +kernel⟩
theorem okd_yX12_bad : okD yX12_bad 0 := ⟨by decide +kernel, by decide +kernel, by decide +kernel⟩
theorem okd_yX12_look : okD yX12_look 0 := ⟨by decide +kernel, by decide +kernel, by decide +kernel⟩
theorem okd_yX12_isDigit : okD yX12_isDigit 1 := ⟨by decide +kernel, by decide +kernel, by decide +kernel⟩
theorem okd_yX12_plainNumber : okD yX12_plainNumber 0 := ⟨by decide +kernel, by decide +kernel, by decide +kernel⟩
theorem okd_yX12_put : okD yX12_put 2 := ⟨by decide +kernel, by decide +kernel, by decide +kernel⟩
theorem okd_yX12_letterOf : okD yX12_letterOf 1 := ⟨by decide +kernel, by decide +kernel, by decide +kernel⟩
theorem okd_yX12_opens : okD yX12_opens 0 := ⟨by decide +kernel, by decide +kernel, by decide +kernel⟩
theorem okd_yX12_sum : okD yX12_sum 0 := ⟨by decide +kernel, by decide +kernel, by decide +kernel⟩
theorem okd_yX12_closes : okD yX12_closes 1 := ⟨by decide +kernel, by decide +kernel, by decide +kernel⟩
theorem okd_yX12_atom : okD yX12_atom 0 := ⟨by decide +kernel, by decide +kernel, by decide +kernel⟩
theorem okd_yX12_term : okD yX12_term 0 := ⟨by decide +kernel, by decide +kernel, by decide +kernel⟩
theorem okd_yX12_isSign : okD yX12_isSign 1 := ⟨by decide +kernel, by decide +kernel, by decide +kernel⟩
theorem okd_yX12_unit : okD yX12_unit 0 := ⟨by decide +kernel, by decide +kernel, by decide +kernel⟩
theorem okd_yX12_condition : okD yX12_condition 0 := ⟨by decide +kernel, by decide +kernel, by decide +kernel⟩
theorem okd_yX12_compare : okD yX12_compare 0 := ⟨by decide +kernel, by decide +kernel, by decide +kernel⟩
theorem okd_yX12_goOnAnd : okD yX12_goOnAnd 0 := ⟨by decide +kernel, by decide +kernel, by decide +kernel⟩
theorem okd_yX12_goOnOr : okD yX12_goOnOr 0 := ⟨by decide +kernel, by decide +kernel, by decide +kernel⟩
theorem okd_yX12_open : okD yX12_open 1 := ⟨by decide +kernel, by decide +kernel, by decide +kernel⟩
theorem okd_yX12_clause : okD yX12_clause 0 := ⟨by decide +kernel, by decide +kernel, by decide +kernel⟩
theorem okd_yX12_atEnd : okD yX12_atEnd 0 := ⟨by decide +kernel, by decide +kernel, by decide +kernel⟩
theorem okd_yX12_bounded : okD yX12_bounded 1 := ⟨by decide +kernel, by decide +kernel, by decide +kernel⟩
theorem okd_yX12_worked : okD yX12_worked 3 := ⟨by decide +kernel, by decide +kernel, by decide +kernel⟩
theorem okd_yX12_workOut : okD yX12_workOut 3 := ⟨by decide +kernel, by decide +kernel, by decide +kernel⟩
theorem okd_yX12_in : okD yX12_in 3 := ⟨by decide +kernel, by decide +kernel, by decide +kernel⟩
theorem okd_yX12_itemOf : okD yX12_itemOf 1 := ⟨by decide +kernel, by decide +kernel, by decide +kernel⟩
theorem okd_yX12_has : okD yX12_has 2 := ⟨by decide +kernel, by decide +kernel, by decide +kernel⟩
theorem okd_yX12_highest : okD yX12_highest 1 := ⟨by decide +kernel, by decide +kernel, by decide +kernel⟩
theorem okd_yX12_number : okD yX12_number 2 := ⟨by decide +kernel, by decide +kernel, by decide +kernel⟩
theorem okd_yX12_playerText : okD yX12_playerText 0 := ⟨by decide +kernel, by decide +kernel, by decide +kernel⟩
theorem okd_yX12_areTold : okD yX12_areTold 0 := ⟨by decide +kernel, by decide +kernel, by decide +kernel⟩
theorem okd_yX12_readTown : okD yX12_readTown 0 := ⟨by decide +kernel, by decide +kernel, by decide +kernel⟩
theorem okd_yX12_readLaw : okD yX12_readLaw 1 := ⟨by decide +kernel, by decide +kernel, by decide +kernel⟩
theorem okd_yX12_takeTown : okD yX12_takeTown 0 := ⟨by decide +kernel, by decide +kernel, by decide +kernel⟩
theorem okd_yX12_isPlayer : okD yX12_isPlayer 1 := ⟨by decide +kernel, by decide +kernel, by decide +kernel⟩
theorem okd_yX12_of : okD yX12_of 2 := ⟨by decide +kernel, by decide +kernel, by decide +kernel⟩
theorem okd_yX12_worthOf : okD yX12_worthOf 1 := ⟨by decide +kernel, by decide +kernel, by decide +kernel⟩
theorem okd_yX12_dampOf : okD yX12_dampOf 1 := ⟨by decide +kernel, by decide +kernel, by decide +kernel⟩
theorem okd_yX12_pass : okD yX12_pass 2 := ⟨by decide +kernel, by decide +kernel, by decide +kernel⟩
theorem okd_yX12_beatBehind : okD yX12_beatBehind 2 := ⟨by decide +kernel, by decide +kernel, by decide +kernel⟩
theorem okd_yX12_layBeats : okD yX12_layBeats 1 := ⟨by decide +kernel, by decide +kernel, by decide +kernel⟩
theorem okd_yX12_isBar : okD yX12_isBar 1 := ⟨by decide +kernel, by decide +kernel, by decide +kernel⟩
theorem okd_yX12_play : okD yX12_play 0 := ⟨by decide +kernel, by decide +kernel, by decide +kernel⟩
theorem okd_yX12_spreadAt : okD yX12_spreadAt 1 := ⟨by decide +kernel, by decide +kernel, by decide +kernel⟩
theorem okd_yX12_worstBar : okD yX12_worstBar 0 := ⟨by decide +kernel, by decide +kernel, by decide +kernel⟩
theorem okd_yX12_worstNow : okD yX12_worstNow 0 := ⟨by decide +kernel, by decide +kernel, by decide +kernel⟩
theorem okd_yX12_lastAt : okD yX12_lastAt 1 := ⟨by decide +kernel, by decide +kernel, by decide +kernel⟩
theorem okd_yX12_areLike : okD yX12_areLike 2 := ⟨by decide +kernel, by decide +kernel, by decide +kernel⟩
theorem okd_yX12_keepBeats : okD yX12_keepBeats 1 := ⟨by decide +kernel, by decide +kernel, by decide +kernel⟩
theorem okd_yX12_weekFrom : okD yX12_weekFrom 2 := ⟨by decide +kernel, by decide +kernel, by decide +kernel⟩
theorem okd_yX12_takeBeats : okD yX12_takeBeats 1 := ⟨by decide +kernel, by decide +kernel, by decide +kernel⟩
theorem okd_yX12_marksFrom : okD yX12_marksFrom 1 := ⟨by decide +kernel, by decide +kernel, by decide +kernel⟩
theorem okd_yX12_oddsFrom : okD yX12_oddsFrom 3 := ⟨by decide +kernel, by decide +kernel, by decide +kernel⟩
theorem okd_yX12_isAloneLast : okD yX12_isAloneLast 1 := ⟨by decide +kernel, by decide +kernel, by decide +kernel⟩
theorem okd_yX12_agrees : okD yX12_agrees 0 := ⟨by decide +kernel, by decide +kernel, by decide +kernel⟩
theorem okd_yX12_aheadAt : okD yX12_aheadAt 3 := ⟨by decide +kernel, by decide +kernel, by decide +kernel⟩
theorem iuX0 : ∀ w ∈ u_ws RX0 TX0 7, w ∈ uw := mem_places [241, 243, 245, 247, 249, 251, 253] (by decide +kernel) (by decide +kernel)
theorem iuX1 : ∀ w ∈ u_ws RX1 TX1 5, w ∈ uw := mem_places [678, 680, 682, 684, 686] (by decide +kernel) (by decide +kernel)
theorem iuX2 : ∀ w ∈ u_ws RX2 TX2 5, w ∈ uw := mem_places [217, 218, 219, 213, 215] (by decide +kernel) (by decide +kernel)
theorem iuX3 : ∀ w ∈ u_ws RX3 TX3 5, w ∈ uw := mem_places [357, 359, 361, 363, 365] (by decide +kernel) (by decide +kernel)
theorem iuX4 : ∀ w ∈ u_ws RX4 TX4 9, w ∈ uw := mem_places [325, 327, 329, 331, 333, 335, 337, 339, 341] (by decide +kernel) (by decide +kernel)
theorem iuX6 : ∀ w ∈ u_ws RX6 TX6 8, w ∈ uw := mem_places [290, 292, 294, 296, 298, 300, 302, 304] (by decide +kernel) (by decide +kernel)
theorem iuX7 : ∀ w ∈ u_ws RX7 TX7 2, w ∈ uw := mem_places [125, 127] (by decide +kernel) (by decide +kernel)
theorem iuX8 : ∀ w ∈ u_ws RX8 TX8 7, w ∈ uw := mem_places [169, 171, 173, 175, 177, 179, 181] (by decide +kernel) (by decide +kernel)
theorem iuX9 : ∀ w ∈ u_ws RX9 TX9 5, w ∈ uw := mem_places [198, 200, 202, 194, 196] (by decide +kernel) (by decide +kernel)
theorem iuX10 : ∀ w ∈ u_ws RX10 TX10 7, w ∈ uw := mem_places [385, 387, 389, 391, 393, 395, 397] (by decide +kernel) (by decide +kernel)
theorem iuX11 : ∀ w ∈ u_ws RX11 TX11 16, w ∈ uw := mem_places [416, 418, 420, 422, 424, 426, 428, 430, 432, 434, 436, 438, 440, 442, 444, 446] (by decide +kernel) (by decide +kernel)
theorem iuX12 : ∀ w ∈ u_ws RX12 TX12 50, w ∈ uw := mem_places [1206, 1208, 1210, 1212, 1214, 1216, 1218, 1220, 1222, 1224, 1226, 1228, 1230, 1232, 1234, 1236, 1238, 1240, 1242, 1244, 1246, 1248, 1250, 1252, 1254, 1256, 1258, 1260, 1262, 1264, 1266, 1268, 1270, 1272, 1274, 1276, 1278, 1280, 1282, 1284, 1286, 1288, 1290, 1292, 1294, 1296, 1298, 1300, 1302, 1304] (by decide +kernel) (by decide +kernel)
theorem fgX11_10_10 : FG RX11 10 10 0 := ⟨RX11, TX11, 16, "BorrowedBeat", rfl, iuX11, by decide, m400, fun _ _ _ _ h9 => h9⟩
theorem fpX11_10_10 : FPF RX11 10 10 0 (.object "BorrowedBeat$Tape") := ⟨RX11, TX11, 16, "BorrowedBeat", tyX11, rfl, iuX11, by decide, m400, fun _ _ _ _ h9 => h9, tyX11_ok, nmX11, rfl, tyX11_ok 0 (by decide), rfl⟩
theorem fgX11_21_10 : FG RX11 21 10 1 := ⟨RX11, TX11, 16, "BorrowedBeat", rfl, iuX11, by decide, m401, fun _ _ _ _ h9 => h9⟩
theorem fpX11_21_10 : FPF RX11 21 10 1 (.object "BorrowedBeat$TownReader") := ⟨RX11, TX11, 16, "BorrowedBeat", tyX11, rfl, iuX11, by decide, m401, fun _ _ _ _ h9 => h9, tyX11_ok, nmX11, rfl, tyX11_ok 1 (by decide), rfl⟩
theorem fgX11_28_10 : FG RX11 28 10 2 := ⟨RX11, TX11, 16, "BorrowedBeat", rfl, iuX11, by decide, m402, fun _ _ _ _ h9 => h9⟩
theorem fpX11_28_10 : FPF RX11 28 10 2 (.object "BorrowedBeat$LawReader") := ⟨RX11, TX11, 16, "BorrowedBeat", tyX11, rfl, iuX11, by decide, m402, fun _ _ _ _ h9 => h9, tyX11_ok, nmX11, rfl, tyX11_ok 2 (by decide), rfl⟩
theorem fgX11_35_10 : FG RX11 35 10 3 := ⟨RX11, TX11, 16, "BorrowedBeat", rfl, iuX11, by decide, m403, fun _ _ _ _ h9 => h9⟩
theorem fpX11_35_10 : FPF RX11 35 10 3 (.object "BorrowedBeat$Town") := ⟨RX11, TX11, 16, "BorrowedBeat", tyX11, rfl, iuX11, by decide, m403, fun _ _ _ _ h9 => h9, tyX11_ok, nmX11, rfl, tyX11_ok 3 (by decide), rfl⟩
theorem fgX11_41_10 : FG RX11 41 10 4 := ⟨RX11, TX11, 16, "BorrowedBeat", rfl, iuX11, by decide, m404, fun _ _ _ _ h9 => h9⟩
theorem fpX11_41_10 : FPF RX11 41 10 4 (.array (.object "BorrowedBeat$Law")) := ⟨RX11, TX11, 16, "BorrowedBeat", tyX11, rfl, iuX11, by decide, m404, fun _ _ _ _ h9 => h9, tyX11_ok, nmX11, rfl, tyX11_ok 4 (by decide), rfl⟩
theorem fgX11_48_10 : FG RX11 48 10 5 := ⟨RX11, TX11, 16, "BorrowedBeat", rfl, iuX11, by decide, m405, fun _ _ _ _ h9 => h9⟩
theorem fpX11_48_10 : FPF RX11 48 10 5 (.object "BorrowedBeat$Diary") := ⟨RX11, TX11, 16, "BorrowedBeat", tyX11, rfl, iuX11, by decide, m405, fun _ _ _ _ h9 => h9, tyX11_ok, nmX11, rfl, tyX11_ok 5 (by decide), rfl⟩
theorem fgX11_52_10 : FG RX11 52 10 6 := ⟨RX11, TX11, 16, "BorrowedBeat", rfl, iuX11, by decide, m406, fun _ _ _ _ h9 => h9⟩
theorem fpX11_52_10 : FPF RX11 52 10 6 (.array .int) := ⟨RX11, TX11, 16, "BorrowedBeat", tyX11, rfl, iuX11, by decide, m406, fun _ _ _ _ h9 => h9, tyX11_ok, nmX11, rfl, tyX11_ok 6 (by decide), rfl⟩
theorem fgX11_59_10 : FG RX11 59 10 7 := ⟨RX11, TX11, 16, "BorrowedBeat", rfl, iuX11, by decide, m407, fun _ _ _ _ h9 => h9⟩
theorem fpX11_59_10 : FPF RX11 59 10 7 (.object "BorrowedBeat$Score") := ⟨RX11, TX11, 16, "BorrowedBeat", tyX11, rfl, iuX11, by decide, m407, fun _ _ _ _ h9 => h9, tyX11_ok, nmX11, rfl, tyX11_ok 7 (by decide), rfl⟩
theorem fgX11_63_10 : FG RX11 63 10 8 := ⟨RX11, TX11, 16, "BorrowedBeat", rfl, iuX11, by decide, m408, fun _ _ _ _ h9 => h9⟩
theorem fpX11_63_10 : FPF RX11 63 10 8 (.object "BorrowedBeat$Score") := ⟨RX11, TX11, 16, "BorrowedBeat", tyX11, rfl, iuX11, by decide, m408, fun _ _ _ _ h9 => h9, tyX11_ok, nmX11, rfl, tyX11_ok 8 (by decide), rfl⟩
theorem fgX11_69_10 : FG RX11 69 10 9 := ⟨RX11, TX11, 16, "BorrowedBeat", rfl, iuX11, by decide, m409, fun _ _ _ _ h9 => h9⟩
theorem fpX11_69_10 : FPF RX11 69 10 9 (.object "BorrowedBeat$Play") := ⟨RX11, TX11, 16, "BorrowedBeat", tyX11, rfl, iuX11, by decide, m409, fun _ _ _ _ h9 => h9, tyX11_ok, nmX11, rfl, tyX11_ok 9 (by decide), rfl⟩
theorem fgX11_76_10 : FG RX11 76 10 10 := ⟨RX11, TX11, 16, "BorrowedBeat", rfl, iuX11, by decide, m410, fun _ _ _ _ h9 => h9⟩
theorem fpX11_76_10 : FPF RX11 76 10 10 (.object "BorrowedBeat$MarkSearch") := ⟨RX11, TX11, 16, "BorrowedBeat", tyX11, rfl, iuX11, by decide, m410, fun _ _ _ _ h9 => h9, tyX11_ok, nmX11, rfl, tyX11_ok 10 (by decide), rfl⟩
theorem fgX11_85_10 : FG RX11 85 10 11 := ⟨RX11, TX11, 16, "BorrowedBeat", rfl, iuX11, by decide, m411, fun _ _ _ _ h9 => h9⟩
theorem fpX11_85_10 : FPF RX11 85 10 11 (.object "BorrowedBeat$WeekSearch") := ⟨RX11, TX11, 16, "BorrowedBeat", tyX11, rfl, iuX11, by decide, m411, fun _ _ _ _ h9 => h9, tyX11_ok, nmX11, rfl, tyX11_ok 11 (by decide), rfl⟩
theorem fgX11_89_10 : FG RX11 89 10 12 := ⟨RX11, TX11, 16, "BorrowedBeat", rfl, iuX11, by decide, m412, fun _ _ _ _ h9 => h9⟩
theorem fpX11_89_10 : FP RX11 89 10 12 .int := ⟨RX11, TX11, 16, "BorrowedBeat", tyX11, rfl, iuX11, by decide, m412, fun _ _ _ _ h9 => h9, tyX11_ok, nmX11, rfl, tyX11_ok 12 (by decide)⟩
theorem fgX11_93_10 : FG RX11 93 10 14 := ⟨RX11, TX11, 16, "BorrowedBeat", rfl, iuX11, by decide, m414, fun _ _ _ _ h9 => h9⟩
theorem fpX11_93_10 : FP RX11 93 10 14 .int := ⟨RX11, TX11, 16, "BorrowedBeat", tyX11, rfl, iuX11, by decide, m414, fun _ _ _ _ h9 => h9, tyX11_ok, nmX11, rfl, tyX11_ok 14 (by decide)⟩
theorem fgX11_100_6 : FG RX11 100 6 1 := ⟨RX7, TX7, 2, "BorrowedBeat$Tape", rfl, iuX7, by decide, m122, fun _ _ _ _ h9 => h9⟩
theorem fpX11_100_6 : FP RX11 100 6 1 .int := ⟨RX7, TX7, 2, "BorrowedBeat$Tape", tyX7, rfl, iuX7, by decide, m122, fun _ _ _ _ h9 => h9, tyX7_ok, nmX7, rfl, tyX7_ok 1 (by decide)⟩
theorem fgX11_115_7 : FG RX11 115 7 0 := ⟨RX8, TX8, 7, "BorrowedBeat$Town", rfl, iuX8, by decide, m150, fun _ _ _ _ h9 => h9⟩
theorem fgX11_118_10 : FG RX11 118 10 13 := ⟨RX11, TX11, 16, "BorrowedBeat", rfl, iuX11, by decide, m413, fun _ _ _ _ h9 => h9⟩
theorem fpX11_118_10 : FP RX11 118 10 13 .int := ⟨RX11, TX11, 16, "BorrowedBeat", tyX11, rfl, iuX11, by decide, m413, fun _ _ _ _ h9 => h9, tyX11_ok, nmX11, rfl, tyX11_ok 13 (by decide)⟩
theorem fgX11_125_8 : FG RX11 125 8 3 := ⟨RX9, TX9, 5, "BorrowedBeat$TownReader", rfl, iuX9, by decide, m185, fun _ _ _ _ h9 => h9⟩
theorem fgX11_137_10 : FG RX11 137 10 15 := ⟨RX11, TX11, 16, "BorrowedBeat", rfl, iuX11, by decide, m415, fun _ _ _ _ h9 => h9⟩
theorem fpX11_137_10 : FP RX11 137 10 15 .int := ⟨RX11, TX11, 16, "BorrowedBeat", tyX11, rfl, iuX11, by decide, m415, fun _ _ _ _ h9 => h9, tyX11_ok, nmX11, rfl, tyX11_ok 15 (by decide)⟩
theorem fgX11_143_9 : FG RX11 143 9 0 := ⟨RX10, TX10, 7, "BorrowedBeat$WeekSearch", rfl, iuX10, by decide, m375, fun _ _ _ _ h9 => h9⟩
theorem fpX11_143_9 : FP RX11 143 9 0 .boolean := ⟨RX10, TX10, 7, "BorrowedBeat$WeekSearch", tyX10, rfl, iuX10, by decide, m375, fun _ _ _ _ h9 => h9, tyX10_ok, nmX10, rfl, tyX10_ok 0 (by decide)⟩
theorem fgX11_158_5 : FG RX11 158 5 4 := ⟨RX6, TX6, 8, "BorrowedBeat$Score", rfl, iuX6, by decide, m279, fun _ _ _ _ h9 => h9⟩
theorem fgX11_161_7 : FG RX11 161 7 2 := ⟨RX8, TX8, 7, "BorrowedBeat$Town", rfl, iuX8, by decide, m159, fun _ _ _ _ h9 => h9⟩
theorem fgX11_162_7 : FG RX11 162 7 3 := ⟨RX8, TX8, 7, "BorrowedBeat$Town", rfl, iuX8, by decide, m161, fun _ _ _ _ h9 => h9⟩
theorem fgX11_165_7 : FG RX11 165 7 4 := ⟨RX8, TX8, 7, "BorrowedBeat$Town", rfl, iuX8, by decide, m163, fun _ _ _ _ h9 => h9⟩
theorem fgX11_168_5 : FG RX11 168 5 5 := ⟨RX6, TX6, 8, "BorrowedBeat$Score", rfl, iuX6, by decide, m282, fun _ _ _ _ h9 => h9⟩
theorem fgX11_171_5 : FG RX11 171 5 6 := ⟨RX6, TX6, 8, "BorrowedBeat$Score", rfl, iuX6, by decide, m285, fun _ _ _ _ h9 => h9⟩
theorem fgX11_174_5 : FG RX11 174 5 7 := ⟨RX6, TX6, 8, "BorrowedBeat$Score", rfl, iuX6, by decide, m289, fun _ _ _ _ h9 => h9⟩
theorem fgX11_182_5 : FG RX11 182 5 1 := ⟨RX6, TX6, 8, "BorrowedBeat$Score", rfl, iuX6, by decide, m269, fun _ _ _ _ h9 => h9⟩
theorem fpX11_182_5 : FP RX11 182 5 1 .int := ⟨RX6, TX6, 8, "BorrowedBeat$Score", tyX6, rfl, iuX6, by decide, m269, fun _ _ _ _ h9 => h9, tyX6_ok, nmX6, rfl, tyX6_ok 1 (by decide)⟩
theorem fgX11_185_5 : FG RX11 185 5 2 := ⟨RX6, TX6, 8, "BorrowedBeat$Score", rfl, iuX6, by decide, m272, fun _ _ _ _ h9 => h9⟩
theorem fpX11_185_5 : FP RX11 185 5 2 .int := ⟨RX6, TX6, 8, "BorrowedBeat$Score", tyX6, rfl, iuX6, by decide, m272, fun _ _ _ _ h9 => h9, tyX6_ok, nmX6, rfl, tyX6_ok 2 (by decide)⟩
theorem fgX11_196_5 : FG RX11 196 5 3 := ⟨RX6, TX6, 8, "BorrowedBeat$Score", rfl, iuX6, by decide, m275, fun _ _ _ _ h9 => h9⟩
theorem fpX11_196_5 : FP RX11 196 5 3 .int := ⟨RX6, TX6, 8, "BorrowedBeat$Score", tyX6, rfl, iuX6, by decide, m275, fun _ _ _ _ h9 => h9, tyX6_ok, nmX6, rfl, tyX6_ok 3 (by decide)⟩
theorem fgX11_205_0 : FG RX11 205 0 0 := ⟨RX0, TX0, 7, "BorrowedBeat$Diary", rfl, iuX0, by decide, m232, fun _ _ _ _ h9 => h9⟩
theorem fpX11_205_0 : FP RX11 205 0 0 .int := ⟨RX0, TX0, 7, "BorrowedBeat$Diary", tyX0, rfl, iuX0, by decide, m232, fun _ _ _ _ h9 => h9, tyX0_ok, nmX0, rfl, tyX0_ok 0 (by decide)⟩
theorem fgX11_216_0 : FG RX11 216 0 1 := ⟨RX0, TX0, 7, "BorrowedBeat$Diary", rfl, iuX0, by decide, m234, fun _ _ _ _ h9 => h9⟩
theorem fgX11_225_0 : FG RX11 225 0 2 := ⟨RX0, TX0, 7, "BorrowedBeat$Diary", rfl, iuX0, by decide, m236, fun _ _ _ _ h9 => h9⟩
theorem fgX11_249_4 : FG RX11 249 4 3 := ⟨RX4, TX4, 9, "BorrowedBeat$Play", rfl, iuX4, by decide, m317, fun _ _ _ _ h9 => h9⟩
theorem fgX11_265_4 : FG RX11 265 4 4 := ⟨RX4, TX4, 9, "BorrowedBeat$Play", rfl, iuX4, by decide, m319, fun _ _ _ _ h9 => h9⟩
theorem fgX11_268_4 : FG RX11 268 4 5 := ⟨RX4, TX4, 9, "BorrowedBeat$Play", rfl, iuX4, by decide, m321, fun _ _ _ _ h9 => h9⟩
theorem fgX11_304_3 : FG RX11 304 3 0 := ⟨RX3, TX3, 5, "BorrowedBeat$MarkSearch", rfl, iuX3, by decide, m351, fun _ _ _ _ h9 => h9⟩
theorem fgX11_307_3 : FG RX11 307 3 1 := ⟨RX3, TX3, 5, "BorrowedBeat$MarkSearch", rfl, iuX3, by decide, m353, fun _ _ _ _ h9 => h9⟩
theorem fgX11_310_9 : FG RX11 310 9 5 := ⟨RX10, TX10, 7, "BorrowedBeat$WeekSearch", rfl, iuX10, by decide, m383, fun _ _ _ _ h9 => h9⟩
theorem fgX11_316_9 : FG RX11 316 9 1 := ⟨RX10, TX10, 7, "BorrowedBeat$WeekSearch", rfl, iuX10, by decide, m377, fun _ _ _ _ h9 => h9⟩
theorem fgX11_319_9 : FG RX11 319 9 2 := ⟨RX10, TX10, 7, "BorrowedBeat$WeekSearch", rfl, iuX10, by decide, m379, fun _ _ _ _ h9 => h9⟩
theorem fgX11_335_7 : FG RX11 335 7 1 := ⟨RX8, TX8, 7, "BorrowedBeat$Town", rfl, iuX8, by decide, m156, fun _ _ _ _ h9 => h9⟩
theorem fgX0_9_0 : FG RX0 9 0 5 := ⟨RX0, TX0, 7, "BorrowedBeat$Diary", rfl, iuX0, by decide, m239, fun _ _ _ _ h9 => h9⟩
theorem fpX0_9_0 : FPF RX0 9 0 5 (.array .int) := ⟨RX0, TX0, 7, "BorrowedBeat$Diary", tyX0, rfl, iuX0, by decide, m239, fun _ _ _ _ h9 => h9, tyX0_ok, nmX0, rfl, tyX0_ok 5 (by decide), rfl⟩
theorem fgX0_15_0 : FG RX0 15 0 6 := ⟨RX0, TX0, 7, "BorrowedBeat$Diary", rfl, iuX0, by decide, m240, fun _ _ _ _ h9 => h9⟩
theorem fpX0_15_0 : FPF RX0 15 0 6 (.array .int) := ⟨RX0, TX0, 7, "BorrowedBeat$Diary", tyX0, rfl, iuX0, by decide, m240, fun _ _ _ _ h9 => h9, tyX0_ok, nmX0, rfl, tyX0_ok 6 (by decide), rfl⟩
theorem fgX0_18_0 : FG RX0 18 0 0 := ⟨RX0, TX0, 7, "BorrowedBeat$Diary", rfl, iuX0, by decide, m231, fun _ _ _ _ h9 => h9⟩
theorem fpX0_18_0 : FP RX0 18 0 0 .int := ⟨RX0, TX0, 7, "BorrowedBeat$Diary", tyX0, rfl, iuX0, by decide, m231, fun _ _ _ _ h9 => h9, tyX0_ok, nmX0, rfl, tyX0_ok 0 (by decide)⟩
theorem fgX0_22_0 : FG RX0 22 0 1 := ⟨RX0, TX0, 7, "BorrowedBeat$Diary", rfl, iuX0, by decide, m233, fun _ _ _ _ h9 => h9⟩
theorem fpX0_22_0 : FP RX0 22 0 1 .int := ⟨RX0, TX0, 7, "BorrowedBeat$Diary", tyX0, rfl, iuX0, by decide, m233, fun _ _ _ _ h9 => h9, tyX0_ok, nmX0, rfl, tyX0_ok 1 (by decide)⟩
theorem fgX0_25_0 : FG RX0 25 0 4 := ⟨RX0, TX0, 7, "BorrowedBeat$Diary", rfl, iuX0, by decide, m238, fun _ _ _ _ h9 => h9⟩
theorem fpX0_25_0 : FP RX0 25 0 4 .int := ⟨RX0, TX0, 7, "BorrowedBeat$Diary", tyX0, rfl, iuX0, by decide, m238, fun _ _ _ _ h9 => h9, tyX0_ok, nmX0, rfl, tyX0_ok 4 (by decide)⟩
theorem fpX0_28_0 : FP RX0 28 0 2 .boolean := ⟨RX0, TX0, 7, "BorrowedBeat$Diary", tyX0, rfl, iuX0, by decide, m235, fun _ _ _ _ h9 => h9, tyX0_ok, nmX0, rfl, tyX0_ok 2 (by decide)⟩
theorem fgX0_44_0 : FG RX0 44 0 3 := ⟨RX0, TX0, 7, "BorrowedBeat$Diary", rfl, iuX0, by decide, m237, fun _ _ _ _ h9 => h9⟩
theorem fpX0_44_0 : FP RX0 44 0 3 .int := ⟨RX0, TX0, 7, "BorrowedBeat$Diary", tyX0, rfl, iuX0, by decide, m237, fun _ _ _ _ h9 => h9, tyX0_ok, nmX0, rfl, tyX0_ok 3 (by decide)⟩
theorem fgX1_9_1 : FG RX1 9 1 0 := ⟨RX1, TX1, 5, "BorrowedBeat$Law", rfl, iuX1, by decide, m673, fun _ _ _ _ h9 => h9⟩
theorem fpX1_9_1 : FPF RX1 9 1 0 (.array .int) := ⟨RX1, TX1, 5, "BorrowedBeat$Law", tyX1, rfl, iuX1, by decide, m673, fun _ _ _ _ h9 => h9, tyX1_ok, nmX1, rfl, tyX1_ok 0 (by decide), rfl⟩
theorem fgX1_15_1 : FG RX1 15 1 1 := ⟨RX1, TX1, 5, "BorrowedBeat$Law", rfl, iuX1, by decide, m674, fun _ _ _ _ h9 => h9⟩
theorem fpX1_15_1 : FPF RX1 15 1 1 (.array .int) := ⟨RX1, TX1, 5, "BorrowedBeat$Law", tyX1, rfl, iuX1, by decide, m674, fun _ _ _ _ h9 => h9, tyX1_ok, nmX1, rfl, tyX1_ok 1 (by decide), rfl⟩
theorem fgX1_18_1 : FG RX1 18 1 2 := ⟨RX1, TX1, 5, "BorrowedBeat$Law", rfl, iuX1, by decide, m675, fun _ _ _ _ h9 => h9⟩
theorem fpX1_18_1 : FPF RX1 18 1 2 (.array .int) := ⟨RX1, TX1, 5, "BorrowedBeat$Law", tyX1, rfl, iuX1, by decide, m675, fun _ _ _ _ h9 => h9, tyX1_ok, nmX1, rfl, tyX1_ok 2 (by decide), rfl⟩
theorem fgX1_21_1 : FG RX1 21 1 4 := ⟨RX1, TX1, 5, "BorrowedBeat$Law", rfl, iuX1, by decide, m677, fun _ _ _ _ h9 => h9⟩
theorem fpX1_21_1 : FP RX1 21 1 4 .int := ⟨RX1, TX1, 5, "BorrowedBeat$Law", tyX1, rfl, iuX1, by decide, m677, fun _ _ _ _ h9 => h9, tyX1_ok, nmX1, rfl, tyX1_ok 4 (by decide)⟩
theorem fgX1_33_1 : FG RX1 33 1 3 := ⟨RX1, TX1, 5, "BorrowedBeat$Law", rfl, iuX1, by decide, m676, fun _ _ _ _ h9 => h9⟩
theorem fpX1_33_1 : FP RX1 33 1 3 .int := ⟨RX1, TX1, 5, "BorrowedBeat$Law", tyX1, rfl, iuX1, by decide, m676, fun _ _ _ _ h9 => h9, tyX1_ok, nmX1, rfl, tyX1_ok 3 (by decide)⟩
theorem fgX1_48_7 : FG RX1 48 7 1 := ⟨RX8, TX8, 7, "BorrowedBeat$Town", rfl, iuX8, by decide, m154, fun _ _ _ _ h9 => h9⟩
theorem fgX1_53_7 : FG RX1 53 7 0 := ⟨RX8, TX8, 7, "BorrowedBeat$Town", rfl, iuX8, by decide, m151, fun _ _ _ _ h9 => h9⟩
theorem fgX2_11_2 : FG RX2 11 2 3 := ⟨RX2, TX2, 5, "BorrowedBeat$LawReader", rfl, iuX2, by decide, m211, fun _ _ _ _ h9 => h9⟩
theorem fpX2_11_2 : FPF RX2 11 2 3 (.array .int) := ⟨RX2, TX2, 5, "BorrowedBeat$LawReader", tyX2, rfl, iuX2, by decide, m211, fun _ _ _ _ h9 => h9, tyX2_ok, nmX2, rfl, tyX2_ok 3 (by decide), rfl⟩
theorem fgX2_17_2 : FG RX2 17 2 4 := ⟨RX2, TX2, 5, "BorrowedBeat$LawReader", rfl, iuX2, by decide, m212, fun _ _ _ _ h9 => h9⟩
theorem fpX2_17_2 : FP RX2 17 2 4 .int := ⟨RX2, TX2, 5, "BorrowedBeat$LawReader", tyX2, rfl, iuX2, by decide, m212, fun _ _ _ _ h9 => h9, tyX2_ok, nmX2, rfl, tyX2_ok 4 (by decide)⟩
theorem fgX2_68_2 : FG RX2 68 2 1 := ⟨RX2, TX2, 5, "BorrowedBeat$LawReader", rfl, iuX2, by decide, m191, fun _ s h7 x9 h9 => u_same (h7 _ m192) x9 h9⟩
theorem fpX2_68_2 : FP RX2 68 2 1 .int := ⟨RX2, TX2, 5, "BorrowedBeat$LawReader", tyX2, rfl, iuX2, by decide, m191, fun _ s h7 x9 h9 => u_same (h7 _ m192) x9 h9, tyX2_ok, nmX2, rfl, tyX2_ok 1 (by decide)⟩
theorem fgX3_9_3 : FG RX3 9 3 2 := ⟨RX3, TX3, 5, "BorrowedBeat$MarkSearch", rfl, iuX3, by decide, m354, fun _ _ _ _ h9 => h9⟩
theorem fpX3_9_3 : FPF RX3 9 3 2 (.array .int) := ⟨RX3, TX3, 5, "BorrowedBeat$MarkSearch", tyX3, rfl, iuX3, by decide, m354, fun _ _ _ _ h9 => h9, tyX3_ok, nmX3, rfl, tyX3_ok 2 (by decide), rfl⟩
theorem fgX3_15_3 : FG RX3 15 3 3 := ⟨RX3, TX3, 5, "BorrowedBeat$MarkSearch", rfl, iuX3, by decide, m355, fun _ _ _ _ h9 => h9⟩
theorem fpX3_15_3 : FPF RX3 15 3 3 (.array .int) := ⟨RX3, TX3, 5, "BorrowedBeat$MarkSearch", tyX3, rfl, iuX3, by decide, m355, fun _ _ _ _ h9 => h9, tyX3_ok, nmX3, rfl, tyX3_ok 3 (by decide), rfl⟩
theorem fgX3_18_3 : FG RX3 18 3 4 := ⟨RX3, TX3, 5, "BorrowedBeat$MarkSearch", rfl, iuX3, by decide, m356, fun _ _ _ _ h9 => h9⟩
theorem fpX3_18_3 : FPF RX3 18 3 4 (.array .int) := ⟨RX3, TX3, 5, "BorrowedBeat$MarkSearch", tyX3, rfl, iuX3, by decide, m356, fun _ _ _ _ h9 => h9, tyX3_ok, nmX3, rfl, tyX3_ok 4 (by decide), rfl⟩
theorem fgX3_28_3 : FG RX3 28 3 0 := ⟨RX3, TX3, 5, "BorrowedBeat$MarkSearch", rfl, iuX3, by decide, m350, fun _ _ _ _ h9 => h9⟩
theorem fpX3_28_3 : FP RX3 28 3 0 .int := ⟨RX3, TX3, 5, "BorrowedBeat$MarkSearch", tyX3, rfl, iuX3, by decide, m350, fun _ _ _ _ h9 => h9, tyX3_ok, nmX3, rfl, tyX3_ok 0 (by decide)⟩
theorem fgX3_32_3 : FG RX3 32 3 1 := ⟨RX3, TX3, 5, "BorrowedBeat$MarkSearch", rfl, iuX3, by decide, m352, fun _ _ _ _ h9 => h9⟩
theorem fpX3_32_3 : FP RX3 32 3 1 .int := ⟨RX3, TX3, 5, "BorrowedBeat$MarkSearch", tyX3, rfl, iuX3, by decide, m352, fun _ _ _ _ h9 => h9, tyX3_ok, nmX3, rfl, tyX3_ok 1 (by decide)⟩
theorem fgX3_35_5 : FG RX3 35 5 1 := ⟨RX6, TX6, 8, "BorrowedBeat$Score", rfl, iuX6, by decide, m267, fun _ _ _ _ h9 => h9⟩
theorem fgX3_56_5 : FG RX3 56 5 0 := ⟨RX6, TX6, 8, "BorrowedBeat$Score", rfl, iuX6, by decide, m265, fun _ _ _ _ h9 => h9⟩
theorem fgX3_65_5 : FG RX3 65 5 7 := ⟨RX6, TX6, 8, "BorrowedBeat$Score", rfl, iuX6, by decide, m287, fun _ _ _ _ h9 => h9⟩
theorem fgX4_11_4 : FG RX4 11 4 0 := ⟨RX4, TX4, 9, "BorrowedBeat$Play", rfl, iuX4, by decide, m313, fun _ _ _ _ h9 => h9⟩
theorem fpX4_11_4 : FPF RX4 11 4 0 (.array .int) := ⟨RX4, TX4, 9, "BorrowedBeat$Play", tyX4, rfl, iuX4, by decide, m313, fun _ _ _ _ h9 => h9, tyX4_ok, nmX4, rfl, tyX4_ok 0 (by decide), rfl⟩
theorem fgX4_15_4 : FG RX4 15 4 1 := ⟨RX4, TX4, 9, "BorrowedBeat$Play", rfl, iuX4, by decide, m314, fun _ _ _ _ h9 => h9⟩
theorem fpX4_15_4 : FPF RX4 15 4 1 (.array .int) := ⟨RX4, TX4, 9, "BorrowedBeat$Play", tyX4, rfl, iuX4, by decide, m314, fun _ _ _ _ h9 => h9, tyX4_ok, nmX4, rfl, tyX4_ok 1 (by decide), rfl⟩
theorem fgX4_18_4 : FG RX4 18 4 2 := ⟨RX4, TX4, 9, "BorrowedBeat$Play", rfl, iuX4, by decide, m315, fun _ _ _ _ h9 => h9⟩
theorem fpX4_18_4 : FPF RX4 18 4 2 (.array .int) := ⟨RX4, TX4, 9, "BorrowedBeat$Play", tyX4, rfl, iuX4, by decide, m315, fun _ _ _ _ h9 => h9, tyX4_ok, nmX4, rfl, tyX4_ok 2 (by decide), rfl⟩
theorem fgX4_21_4 : FG RX4 21 4 3 := ⟨RX4, TX4, 9, "BorrowedBeat$Play", rfl, iuX4, by decide, m316, fun _ _ _ _ h9 => h9⟩
theorem fpX4_21_4 : FPF RX4 21 4 3 (.array .int) := ⟨RX4, TX4, 9, "BorrowedBeat$Play", tyX4, rfl, iuX4, by decide, m316, fun _ _ _ _ h9 => h9, tyX4_ok, nmX4, rfl, tyX4_ok 3 (by decide), rfl⟩
theorem fgX4_28_4 : FG RX4 28 4 7 := ⟨RX4, TX4, 9, "BorrowedBeat$Play", rfl, iuX4, by decide, m323, fun _ _ _ _ h9 => h9⟩
theorem fpX4_28_4 : FP RX4 28 4 7 .int := ⟨RX4, TX4, 9, "BorrowedBeat$Play", tyX4, rfl, iuX4, by decide, m323, fun _ _ _ _ h9 => h9, tyX4_ok, nmX4, rfl, tyX4_ok 7 (by decide)⟩
theorem fgX4_46_5 : FG RX4 46 5 0 := ⟨RX6, TX6, 8, "BorrowedBeat$Score", rfl, iuX6, by decide, m264, fun _ _ _ _ h9 => h9⟩
theorem fgX4_51_4 : FG RX4 51 4 6 := ⟨RX4, TX4, 9, "BorrowedBeat$Play", rfl, iuX4, by decide, m322, fun _ _ _ _ h9 => h9⟩
theorem fpX4_51_4 : FP RX4 51 4 6 .int := ⟨RX4, TX4, 9, "BorrowedBeat$Play", tyX4, rfl, iuX4, by decide, m322, fun _ _ _ _ h9 => h9, tyX4_ok, nmX4, rfl, tyX4_ok 6 (by decide)⟩
theorem fgX4_52_5 : FG RX4 52 5 1 := ⟨RX6, TX6, 8, "BorrowedBeat$Score", rfl, iuX6, by decide, m268, fun _ _ _ _ h9 => h9⟩
theorem fgX4_53_5 : FG RX4 53 5 3 := ⟨RX6, TX6, 8, "BorrowedBeat$Score", rfl, iuX6, by decide, m274, fun _ _ _ _ h9 => h9⟩
theorem fgX4_56_4 : FG RX4 56 4 8 := ⟨RX4, TX4, 9, "BorrowedBeat$Play", rfl, iuX4, by decide, m324, fun _ _ _ _ h9 => h9⟩
theorem fpX4_56_4 : FP RX4 56 4 8 .int := ⟨RX4, TX4, 9, "BorrowedBeat$Play", tyX4, rfl, iuX4, by decide, m324, fun _ _ _ _ h9 => h9, tyX4_ok, nmX4, rfl, tyX4_ok 8 (by decide)⟩
theorem fgX4_57_5 : FG RX4 57 5 4 := ⟨RX6, TX6, 8, "BorrowedBeat$Score", rfl, iuX6, by decide, m278, fun _ _ _ _ h9 => h9⟩
theorem fgX4_58_5 : FG RX4 58 5 2 := ⟨RX6, TX6, 8, "BorrowedBeat$Score", rfl, iuX6, by decide, m271, fun _ _ _ _ h9 => h9⟩
theorem fgX4_61_5 : FG RX4 61 5 5 := ⟨RX6, TX6, 8, "BorrowedBeat$Score", rfl, iuX6, by decide, m281, fun _ _ _ _ h9 => h9⟩
theorem fgX4_64_5 : FG RX4 64 5 6 := ⟨RX6, TX6, 8, "BorrowedBeat$Score", rfl, iuX6, by decide, m284, fun _ _ _ _ h9 => h9⟩
theorem fgX4_72_5 : FG RX4 72 5 7 := ⟨RX6, TX6, 8, "BorrowedBeat$Score", rfl, iuX6, by decide, m288, fun _ _ _ _ h9 => h9⟩
theorem fpX4_119_4 : FP RX4 119 4 4 .int := ⟨RX4, TX4, 9, "BorrowedBeat$Play", tyX4, rfl, iuX4, by decide, m318, fun _ _ _ _ h9 => h9, tyX4_ok, nmX4, rfl, tyX4_ok 4 (by decide)⟩
theorem fpX4_122_4 : FP RX4 122 4 5 .int := ⟨RX4, TX4, 9, "BorrowedBeat$Play", tyX4, rfl, iuX4, by decide, m320, fun _ _ _ _ h9 => h9, tyX4_ok, nmX4, rfl, tyX4_ok 5 (by decide)⟩
theorem fgX5_9_2 : FG RX5 9 2 0 := ⟨RX2, TX2, 5, "BorrowedBeat$Reader", rfl, iuX2, by decide, m187, fun _ _ _ _ h9 => h9⟩
theorem fpX5_9_2 : FPF RX5 9 2 0 (.object "BorrowedBeat$Tape") := ⟨RX2, TX2, 5, "BorrowedBeat$Reader", tyX2, rfl, iuX2, by decide, m187, fun _ _ _ _ h9 => h9, tyX2_ok, nmX2, rfl, tyX2_ok 0 (by decide), rfl⟩
theorem fgX5_9_8 : FG RX5 9 8 0 := ⟨RX9, TX9, 5, "BorrowedBeat$Reader", rfl, iuX9, by decide, m187, fun _ _ _ _ h9 => h9⟩
theorem fpX5_9_8 : FPF RX5 9 8 0 (.object "BorrowedBeat$Tape") := ⟨RX9, TX9, 5, "BorrowedBeat$Reader", tyX9, rfl, iuX9, by decide, m187, fun _ _ _ _ h9 => h9, tyX9_ok, nmX9, rfl, tyX9_ok 0 (by decide), rfl⟩
theorem fgX5_15_2 : FG RX5 15 2 1 := ⟨RX2, TX2, 5, "BorrowedBeat$Reader", rfl, iuX2, by decide, m190, fun _ _ _ _ h9 => h9⟩
theorem fpX5_15_2 : FP RX5 15 2 1 .int := ⟨RX2, TX2, 5, "BorrowedBeat$Reader", tyX2, rfl, iuX2, by decide, m190, fun _ _ _ _ h9 => h9, tyX2_ok, nmX2, rfl, tyX2_ok 1 (by decide)⟩
theorem fgX5_15_8 : FG RX5 15 8 1 := ⟨RX9, TX9, 5, "BorrowedBeat$Reader", rfl, iuX9, by decide, m190, fun _ _ _ _ h9 => h9⟩
theorem fpX5_15_8 : FP RX5 15 8 1 .int := ⟨RX9, TX9, 5, "BorrowedBeat$Reader", tyX9, rfl, iuX9, by decide, m190, fun _ _ _ _ h9 => h9, tyX9_ok, nmX9, rfl, tyX9_ok 1 (by decide)⟩
theorem fgX5_19_2 : FG RX5 19 2 2 := ⟨RX2, TX2, 5, "BorrowedBeat$Reader", rfl, iuX2, by decide, m193, fun _ _ _ _ h9 => h9⟩
theorem fpX5_19_2 : FP RX5 19 2 2 .int := ⟨RX2, TX2, 5, "BorrowedBeat$Reader", tyX2, rfl, iuX2, by decide, m193, fun _ _ _ _ h9 => h9, tyX2_ok, nmX2, rfl, tyX2_ok 2 (by decide)⟩
theorem fgX5_19_8 : FG RX5 19 8 2 := ⟨RX9, TX9, 5, "BorrowedBeat$Reader", rfl, iuX9, by decide, m193, fun _ _ _ _ h9 => h9⟩
theorem fpX5_19_8 : FP RX5 19 8 2 .int := ⟨RX9, TX9, 5, "BorrowedBeat$Reader", tyX9, rfl, iuX9, by decide, m193, fun _ _ _ _ h9 => h9, tyX9_ok, nmX9, rfl, tyX9_ok 2 (by decide)⟩
theorem fgX5_37_6 : FG RX5 37 6 1 := ⟨RX7, TX7, 2, "BorrowedBeat$Tape", rfl, iuX7, by decide, m124, fun _ _ _ _ h9 => h9⟩
theorem fgX5_51_6 : FG RX5 51 6 0 := ⟨RX7, TX7, 2, "BorrowedBeat$Tape", rfl, iuX7, by decide, m121, fun _ _ _ _ h9 => h9⟩
theorem fgX6_9_5 : FG RX6 9 5 1 := ⟨RX6, TX6, 8, "BorrowedBeat$Score", rfl, iuX6, by decide, m266, fun _ _ _ _ h9 => h9⟩
theorem fpX6_9_5 : FP RX6 9 5 1 .int := ⟨RX6, TX6, 8, "BorrowedBeat$Score", tyX6, rfl, iuX6, by decide, m266, fun _ _ _ _ h9 => h9, tyX6_ok, nmX6, rfl, tyX6_ok 1 (by decide)⟩
theorem fgX6_15_5 : FG RX6 15 5 4 := ⟨RX6, TX6, 8, "BorrowedBeat$Score", rfl, iuX6, by decide, m276, fun _ _ _ _ h9 => h9⟩
theorem fpX6_15_5 : FPF RX6 15 5 4 (.array .int) := ⟨RX6, TX6, 8, "BorrowedBeat$Score", tyX6, rfl, iuX6, by decide, m276, fun _ _ _ _ h9 => h9, tyX6_ok, nmX6, rfl, tyX6_ok 4 (by decide), rfl⟩
theorem fgX6_19_5 : FG RX6 19 5 5 := ⟨RX6, TX6, 8, "BorrowedBeat$Score", rfl, iuX6, by decide, m280, fun _ _ _ _ h9 => h9⟩
theorem fpX6_19_5 : FPF RX6 19 5 5 (.array .int) := ⟨RX6, TX6, 8, "BorrowedBeat$Score", tyX6, rfl, iuX6, by decide, m280, fun _ _ _ _ h9 => h9, tyX6_ok, nmX6, rfl, tyX6_ok 5 (by decide), rfl⟩
theorem fgX6_22_5 : FG RX6 22 5 6 := ⟨RX6, TX6, 8, "BorrowedBeat$Score", rfl, iuX6, by decide, m283, fun _ _ _ _ h9 => h9⟩
theorem fpX6_22_5 : FPF RX6 22 5 6 (.array .int) := ⟨RX6, TX6, 8, "BorrowedBeat$Score", tyX6, rfl, iuX6, by decide, m283, fun _ _ _ _ h9 => h9, tyX6_ok, nmX6, rfl, tyX6_ok 6 (by decide), rfl⟩
theorem fgX6_25_5 : FG RX6 25 5 7 := ⟨RX6, TX6, 8, "BorrowedBeat$Score", rfl, iuX6, by decide, m286, fun _ _ _ _ h9 => h9⟩
theorem fpX6_25_5 : FPF RX6 25 5 7 (.array .int) := ⟨RX6, TX6, 8, "BorrowedBeat$Score", tyX6, rfl, iuX6, by decide, m286, fun _ _ _ _ h9 => h9, tyX6_ok, nmX6, rfl, tyX6_ok 7 (by decide), rfl⟩
theorem fgX6_28_7 : FG RX6 28 7 0 := ⟨RX8, TX8, 7, "BorrowedBeat$Town", rfl, iuX8, by decide, m147, fun _ _ _ _ h9 => h9⟩
theorem fgX6_33_5 : FG RX6 33 5 0 := ⟨RX6, TX6, 8, "BorrowedBeat$Score", rfl, iuX6, by decide, m262, fun _ _ _ _ h9 => h9⟩
theorem fpX6_33_5 : FP RX6 33 5 0 .int := ⟨RX6, TX6, 8, "BorrowedBeat$Score", tyX6, rfl, iuX6, by decide, m262, fun _ _ _ _ h9 => h9, tyX6_ok, nmX6, rfl, tyX6_ok 0 (by decide)⟩
theorem fgX6_34_5 : FG RX6 34 5 3 := ⟨RX6, TX6, 8, "BorrowedBeat$Score", rfl, iuX6, by decide, m273, fun _ _ _ _ h9 => h9⟩
theorem fpX6_34_5 : FP RX6 34 5 3 .int := ⟨RX6, TX6, 8, "BorrowedBeat$Score", tyX6, rfl, iuX6, by decide, m273, fun _ _ _ _ h9 => h9, tyX6_ok, nmX6, rfl, tyX6_ok 3 (by decide)⟩
theorem fgX6_37_7 : FG RX6 37 7 2 := ⟨RX8, TX8, 7, "BorrowedBeat$Town", rfl, iuX8, by decide, m158, fun _ _ _ _ h9 => h9⟩
theorem fgX6_44_7 : FG RX6 44 7 5 := ⟨RX8, TX8, 7, "BorrowedBeat$Town", rfl, iuX8, by decide, m165, fun _ _ _ _ h9 => h9⟩
theorem fgX6_45_7 : FG RX6 45 7 6 := ⟨RX8, TX8, 7, "BorrowedBeat$Town", rfl, iuX8, by decide, m168, fun _ _ _ _ h9 => h9⟩
theorem fgX6_52_5 : FG RX6 52 5 2 := ⟨RX6, TX6, 8, "BorrowedBeat$Score", rfl, iuX6, by decide, m270, fun _ _ _ _ h9 => h9⟩
theorem fpX6_52_5 : FP RX6 52 5 2 .int := ⟨RX6, TX6, 8, "BorrowedBeat$Score", tyX6, rfl, iuX6, by decide, m270, fun _ _ _ _ h9 => h9, tyX6_ok, nmX6, rfl, tyX6_ok 2 (by decide)⟩
theorem fgX7_9_6 : FG RX7 9 6 0 := ⟨RX7, TX7, 2, "BorrowedBeat$Tape", rfl, iuX7, by decide, m120, fun _ _ _ _ h9 => h9⟩
theorem fpX7_9_6 : FPF RX7 9 6 0 (.array .int) := ⟨RX7, TX7, 2, "BorrowedBeat$Tape", tyX7, rfl, iuX7, by decide, m120, fun _ _ _ _ h9 => h9, tyX7_ok, nmX7, rfl, tyX7_ok 0 (by decide), rfl⟩
theorem fgX7_13_6 : FG RX7 13 6 1 := ⟨RX7, TX7, 2, "BorrowedBeat$Tape", rfl, iuX7, by decide, m123, fun _ _ _ _ h9 => h9⟩
theorem fpX7_13_6 : FP RX7 13 6 1 .int := ⟨RX7, TX7, 2, "BorrowedBeat$Tape", tyX7, rfl, iuX7, by decide, m123, fun _ _ _ _ h9 => h9, tyX7_ok, nmX7, rfl, tyX7_ok 1 (by decide)⟩
theorem fgX8_9_7 : FG RX8 9 7 1 := ⟨RX8, TX8, 7, "BorrowedBeat$Town", rfl, iuX8, by decide, m152, fun _ _ _ _ h9 => h9⟩
theorem fpX8_9_7 : FP RX8 9 7 1 .int := ⟨RX8, TX8, 7, "BorrowedBeat$Town", tyX8, rfl, iuX8, by decide, m152, fun _ _ _ _ h9 => h9, tyX8_ok, nmX8, rfl, tyX8_ok 1 (by decide)⟩
theorem fgX8_15_7 : FG RX8 15 7 2 := ⟨RX8, TX8, 7, "BorrowedBeat$Town", rfl, iuX8, by decide, m157, fun _ _ _ _ h9 => h9⟩
theorem fpX8_15_7 : FPF RX8 15 7 2 (.array .int) := ⟨RX8, TX8, 7, "BorrowedBeat$Town", tyX8, rfl, iuX8, by decide, m157, fun _ _ _ _ h9 => h9, tyX8_ok, nmX8, rfl, tyX8_ok 2 (by decide), rfl⟩
theorem fgX8_19_7 : FG RX8 19 7 3 := ⟨RX8, TX8, 7, "BorrowedBeat$Town", rfl, iuX8, by decide, m160, fun _ _ _ _ h9 => h9⟩
theorem fpX8_19_7 : FPF RX8 19 7 3 (.array .int) := ⟨RX8, TX8, 7, "BorrowedBeat$Town", tyX8, rfl, iuX8, by decide, m160, fun _ _ _ _ h9 => h9, tyX8_ok, nmX8, rfl, tyX8_ok 3 (by decide), rfl⟩
theorem fgX8_22_7 : FG RX8 22 7 4 := ⟨RX8, TX8, 7, "BorrowedBeat$Town", rfl, iuX8, by decide, m162, fun _ _ _ _ h9 => h9⟩
theorem fpX8_22_7 : FPF RX8 22 7 4 (.array .int) := ⟨RX8, TX8, 7, "BorrowedBeat$Town", tyX8, rfl, iuX8, by decide, m162, fun _ _ _ _ h9 => h9, tyX8_ok, nmX8, rfl, tyX8_ok 4 (by decide), rfl⟩
theorem fgX8_25_7 : FG RX8 25 7 5 := ⟨RX8, TX8, 7, "BorrowedBeat$Town", rfl, iuX8, by decide, m164, fun _ _ _ _ h9 => h9⟩
theorem fpX8_25_7 : FPF RX8 25 7 5 (.array .int) := ⟨RX8, TX8, 7, "BorrowedBeat$Town", tyX8, rfl, iuX8, by decide, m164, fun _ _ _ _ h9 => h9, tyX8_ok, nmX8, rfl, tyX8_ok 5 (by decide), rfl⟩
theorem fgX8_28_7 : FG RX8 28 7 6 := ⟨RX8, TX8, 7, "BorrowedBeat$Town", rfl, iuX8, by decide, m167, fun _ _ _ _ h9 => h9⟩
theorem fpX8_28_7 : FPF RX8 28 7 6 (.array .int) := ⟨RX8, TX8, 7, "BorrowedBeat$Town", tyX8, rfl, iuX8, by decide, m167, fun _ _ _ _ h9 => h9, tyX8_ok, nmX8, rfl, tyX8_ok 6 (by decide), rfl⟩
theorem fgX8_31_7 : FG RX8 31 7 0 := ⟨RX8, TX8, 7, "BorrowedBeat$Town", rfl, iuX8, by decide, m146, fun _ _ _ _ h9 => h9⟩
theorem fpX8_31_7 : FP RX8 31 7 0 .int := ⟨RX8, TX8, 7, "BorrowedBeat$Town", tyX8, rfl, iuX8, by decide, m146, fun _ _ _ _ h9 => h9, tyX8_ok, nmX8, rfl, tyX8_ok 0 (by decide)⟩
theorem fgX9_14_8 : FG RX9 14 8 3 := ⟨RX9, TX9, 5, "BorrowedBeat$TownReader", rfl, iuX9, by decide, m184, fun _ _ _ _ h9 => h9⟩
theorem fpX9_14_8 : FPF RX9 14 8 3 (.object "BorrowedBeat$Town") := ⟨RX9, TX9, 5, "BorrowedBeat$TownReader", tyX9, rfl, iuX9, by decide, m184, fun _ _ _ _ h9 => h9, tyX9_ok, nmX9, rfl, tyX9_ok 3 (by decide), rfl⟩
theorem fgX9_23_8 : FG RX9 23 8 4 := ⟨RX9, TX9, 5, "BorrowedBeat$TownReader", rfl, iuX9, by decide, m186, fun _ _ _ _ h9 => h9⟩
theorem fpX9_23_8 : FP RX9 23 8 4 .boolean := ⟨RX9, TX9, 5, "BorrowedBeat$TownReader", tyX9, rfl, iuX9, by decide, m186, fun _ _ _ _ h9 => h9, tyX9_ok, nmX9, rfl, tyX9_ok 4 (by decide)⟩
theorem fgX9_31_7 : FG RX9 31 7 0 := ⟨RX8, TX8, 7, "BorrowedBeat$Town", rfl, iuX8, by decide, m148, fun _ _ _ _ h9 => h9⟩
theorem fgX9_35_8 : FG RX9 35 8 1 := ⟨RX9, TX9, 5, "BorrowedBeat$TownReader", rfl, iuX9, by decide, m188, fun _ s h7 x9 h9 => u_same (h7 _ m189) x9 h9⟩
theorem fpX9_35_8 : FP RX9 35 8 1 .int := ⟨RX9, TX9, 5, "BorrowedBeat$TownReader", tyX9, rfl, iuX9, by decide, m188, fun _ s h7 x9 h9 => u_same (h7 _ m189) x9 h9, tyX9_ok, nmX9, rfl, tyX9_ok 1 (by decide)⟩
theorem fpX9_68_7 : FP RX9 68 7 1 .int := ⟨RX8, TX8, 7, "BorrowedBeat$Town", tyX8, rfl, iuX8, by decide, m155, fun _ _ _ _ h9 => h9, tyX8_ok, nmX8, rfl, tyX8_ok 1 (by decide)⟩
theorem fgX9_75_7 : FG RX9 75 7 5 := ⟨RX8, TX8, 7, "BorrowedBeat$Town", rfl, iuX8, by decide, m166, fun _ _ _ _ h9 => h9⟩
theorem fgX10_9_9 : FG RX10 9 9 5 := ⟨RX10, TX10, 7, "BorrowedBeat$WeekSearch", rfl, iuX10, by decide, m382, fun _ _ _ _ h9 => h9⟩
theorem fpX10_9_9 : FPF RX10 9 9 5 (.array .int) := ⟨RX10, TX10, 7, "BorrowedBeat$WeekSearch", tyX10, rfl, iuX10, by decide, m382, fun _ _ _ _ h9 => h9, tyX10_ok, nmX10, rfl, tyX10_ok 5 (by decide), rfl⟩
theorem fgX10_15_9 : FG RX10 15 9 6 := ⟨RX10, TX10, 7, "BorrowedBeat$WeekSearch", rfl, iuX10, by decide, m384, fun _ _ _ _ h9 => h9⟩
theorem fpX10_15_9 : FPF RX10 15 9 6 (.array .int) := ⟨RX10, TX10, 7, "BorrowedBeat$WeekSearch", tyX10, rfl, iuX10, by decide, m384, fun _ _ _ _ h9 => h9, tyX10_ok, nmX10, rfl, tyX10_ok 6 (by decide), rfl⟩
theorem fgX10_18_9 : FG RX10 18 9 3 := ⟨RX10, TX10, 7, "BorrowedBeat$WeekSearch", rfl, iuX10, by decide, m380, fun _ _ _ _ h9 => h9⟩
theorem fpX10_18_9 : FPF RX10 18 9 3 (.object "BorrowedBeat$Play") := ⟨RX10, TX10, 7, "BorrowedBeat$WeekSearch", tyX10, rfl, iuX10, by decide, m380, fun _ _ _ _ h9 => h9, tyX10_ok, nmX10, rfl, tyX10_ok 3 (by decide), rfl⟩
theorem fgX10_22_9 : FG RX10 22 9 4 := ⟨RX10, TX10, 7, "BorrowedBeat$WeekSearch", rfl, iuX10, by decide, m381, fun _ _ _ _ h9 => h9⟩
theorem fpX10_22_9 : FPF RX10 22 9 4 (.object "BorrowedBeat$Score") := ⟨RX10, TX10, 7, "BorrowedBeat$WeekSearch", tyX10, rfl, iuX10, by decide, m381, fun _ _ _ _ h9 => h9, tyX10_ok, nmX10, rfl, tyX10_ok 4 (by decide), rfl⟩
theorem fgX10_36_5 : FG RX10 36 5 0 := ⟨RX6, TX6, 8, "BorrowedBeat$Score", rfl, iuX6, by decide, m263, fun _ _ _ _ h9 => h9⟩
theorem fgX10_40_5 : FG RX10 40 5 4 := ⟨RX6, TX6, 8, "BorrowedBeat$Score", rfl, iuX6, by decide, m277, fun _ _ _ _ h9 => h9⟩
theorem fgX10_48_9 : FG RX10 48 9 1 := ⟨RX10, TX10, 7, "BorrowedBeat$WeekSearch", rfl, iuX10, by decide, m376, fun _ _ _ _ h9 => h9⟩
theorem fpX10_48_9 : FP RX10 48 9 1 .int := ⟨RX10, TX10, 7, "BorrowedBeat$WeekSearch", tyX10, rfl, iuX10, by decide, m376, fun _ _ _ _ h9 => h9, tyX10_ok, nmX10, rfl, tyX10_ok 1 (by decide)⟩
theorem fgX10_51_9 : FG RX10 51 9 2 := ⟨RX10, TX10, 7, "BorrowedBeat$WeekSearch", rfl, iuX10, by decide, m378, fun _ _ _ _ h9 => h9⟩
theorem fpX10_51_9 : FP RX10 51 9 2 .int := ⟨RX10, TX10, 7, "BorrowedBeat$WeekSearch", tyX10, rfl, iuX10, by decide, m378, fun _ _ _ _ h9 => h9, tyX10_ok, nmX10, rfl, tyX10_ok 2 (by decide)⟩
theorem fpX10_58_9 : FP RX10 58 9 0 .boolean := ⟨RX10, TX10, 7, "BorrowedBeat$WeekSearch", tyX10, rfl, iuX10, by decide, m374, fun _ _ _ _ h9 => h9, tyX10_ok, nmX10, rfl, tyX10_ok 0 (by decide)⟩
theorem fgX10_62_7 : FG RX10 62 7 0 := ⟨RX8, TX8, 7, "BorrowedBeat$Town", rfl, iuX8, by decide, m149, fun _ _ _ _ h9 => h9⟩
theorem fgX10_65_7 : FG RX10 65 7 1 := ⟨RX8, TX8, 7, "BorrowedBeat$Town", rfl, iuX8, by decide, m153, fun _ _ _ _ h9 => h9⟩
theorem fgX12_9_11 : FG RX12 9 11 1 := ⟨RX12, TX12, 50, "BorrowedBeatModel", rfl, iuX12, by decide, m1157, fun _ _ _ _ h9 => h9⟩
theorem fpX12_9_11 : FPF RX12 9 11 1 (.array .int) := ⟨RX12, TX12, 50, "BorrowedBeatModel", tyX12, rfl, iuX12, by decide, m1157, fun _ _ _ _ h9 => h9, tyX12_ok, nmX12, rfl, tyX12_ok 1 (by decide), rfl⟩
theorem fgX12_13_11 : FG RX12 13 11 6 := ⟨RX12, TX12, 50, "BorrowedBeatModel", rfl, iuX12, by decide, m1162, fun _ _ _ _ h9 => h9⟩
theorem fpX12_13_11 : FPF RX12 13 11 6 (.array .int) := ⟨RX12, TX12, 50, "BorrowedBeatModel", tyX12, rfl, iuX12, by decide, m1162, fun _ _ _ _ h9 => h9, tyX12_ok, nmX12, rfl, tyX12_ok 6 (by decide), rfl⟩
theorem fgX12_16_11 : FG RX12 16 11 7 := ⟨RX12, TX12, 50, "BorrowedBeatModel", rfl, iuX12, by decide, m1163, fun _ _ _ _ h9 => h9⟩
theorem fpX12_16_11 : FPF RX12 16 11 7 (.array .int) := ⟨RX12, TX12, 50, "BorrowedBeatModel", tyX12, rfl, iuX12, by decide, m1163, fun _ _ _ _ h9 => h9, tyX12_ok, nmX12, rfl, tyX12_ok 7 (by decide), rfl⟩
theorem fgX12_19_11 : FG RX12 19 11 8 := ⟨RX12, TX12, 50, "BorrowedBeatModel", rfl, iuX12, by decide, m1164, fun _ _ _ _ h9 => h9⟩
theorem fpX12_19_11 : FPF RX12 19 11 8 (.array .int) := ⟨RX12, TX12, 50, "BorrowedBeatModel", tyX12, rfl, iuX12, by decide, m1164, fun _ _ _ _ h9 => h9, tyX12_ok, nmX12, rfl, tyX12_ok 8 (by decide), rfl⟩
theorem fgX12_22_11 : FG RX12 22 11 9 := ⟨RX12, TX12, 50, "BorrowedBeatModel", rfl, iuX12, by decide, m1165, fun _ _ _ _ h9 => h9⟩
theorem fpX12_22_11 : FPF RX12 22 11 9 (.array .int) := ⟨RX12, TX12, 50, "BorrowedBeatModel", tyX12, rfl, iuX12, by decide, m1165, fun _ _ _ _ h9 => h9, tyX12_ok, nmX12, rfl, tyX12_ok 9 (by decide), rfl⟩
theorem fgX12_25_11 : FG RX12 25 11 10 := ⟨RX12, TX12, 50, "BorrowedBeatModel", rfl, iuX12, by decide, m1166, fun _ _ _ _ h9 => h9⟩
theorem fpX12_25_11 : FPF RX12 25 11 10 (.array .int) := ⟨RX12, TX12, 50, "BorrowedBeatModel", tyX12, rfl, iuX12, by decide, m1166, fun _ _ _ _ h9 => h9, tyX12_ok, nmX12, rfl, tyX12_ok 10 (by decide), rfl⟩
theorem fgX12_28_11 : FG RX12 28 11 11 := ⟨RX12, TX12, 50, "BorrowedBeatModel", rfl, iuX12, by decide, m1167, fun _ _ _ _ h9 => h9⟩
theorem fpX12_28_11 : FPF RX12 28 11 11 (.array .int) := ⟨RX12, TX12, 50, "BorrowedBeatModel", tyX12, rfl, iuX12, by decide, m1167, fun _ _ _ _ h9 => h9, tyX12_ok, nmX12, rfl, tyX12_ok 11 (by decide), rfl⟩
theorem fgX12_31_11 : FG RX12 31 11 12 := ⟨RX12, TX12, 50, "BorrowedBeatModel", rfl, iuX12, by decide, m1168, fun _ _ _ _ h9 => h9⟩
theorem fpX12_31_11 : FPF RX12 31 11 12 (.array .int) := ⟨RX12, TX12, 50, "BorrowedBeatModel", tyX12, rfl, iuX12, by decide, m1168, fun _ _ _ _ h9 => h9, tyX12_ok, nmX12, rfl, tyX12_ok 12 (by decide), rfl⟩
theorem fgX12_34_11 : FG RX12 34 11 15 := ⟨RX12, TX12, 50, "BorrowedBeatModel", rfl, iuX12, by decide, m1171, fun _ _ _ _ h9 => h9⟩
theorem fpX12_34_11 : FPF RX12 34 11 15 (.array .int) := ⟨RX12, TX12, 50, "BorrowedBeatModel", tyX12, rfl, iuX12, by decide, m1171, fun _ _ _ _ h9 => h9, tyX12_ok, nmX12, rfl, tyX12_ok 15 (by decide), rfl⟩
theorem fgX12_37_11 : FG RX12 37 11 16 := ⟨RX12, TX12, 50, "BorrowedBeatModel", rfl, iuX12, by decide, m1172, fun _ _ _ _ h9 => h9⟩
theorem fpX12_37_11 : FPF RX12 37 11 16 (.array .int) := ⟨RX12, TX12, 50, "BorrowedBeatModel", tyX12, rfl, iuX12, by decide, m1172, fun _ _ _ _ h9 => h9, tyX12_ok, nmX12, rfl, tyX12_ok 16 (by decide), rfl⟩
theorem fgX12_40_11 : FG RX12 40 11 17 := ⟨RX12, TX12, 50, "BorrowedBeatModel", rfl, iuX12, by decide, m1173, fun _ _ _ _ h9 => h9⟩
theorem fpX12_40_11 : FPF RX12 40 11 17 (.array .int) := ⟨RX12, TX12, 50, "BorrowedBeatModel", tyX12, rfl, iuX12, by decide, m1173, fun _ _ _ _ h9 => h9, tyX12_ok, nmX12, rfl, tyX12_ok 17 (by decide), rfl⟩
theorem fgX12_43_11 : FG RX12 43 11 20 := ⟨RX12, TX12, 50, "BorrowedBeatModel", rfl, iuX12, by decide, m1176, fun _ _ _ _ h9 => h9⟩
theorem fpX12_43_11 : FPF RX12 43 11 20 (.array .int) := ⟨RX12, TX12, 50, "BorrowedBeatModel", tyX12, rfl, iuX12, by decide, m1176, fun _ _ _ _ h9 => h9, tyX12_ok, nmX12, rfl, tyX12_ok 20 (by decide), rfl⟩
theorem fgX12_46_11 : FG RX12 46 11 23 := ⟨RX12, TX12, 50, "BorrowedBeatModel", rfl, iuX12, by decide, m1179, fun _ _ _ _ h9 => h9⟩
theorem fpX12_46_11 : FPF RX12 46 11 23 (.array .int) := ⟨RX12, TX12, 50, "BorrowedBeatModel", tyX12, rfl, iuX12, by decide, m1179, fun _ _ _ _ h9 => h9, tyX12_ok, nmX12, rfl, tyX12_ok 23 (by decide), rfl⟩
theorem fgX12_49_11 : FG RX12 49 11 24 := ⟨RX12, TX12, 50, "BorrowedBeatModel", rfl, iuX12, by decide, m1180, fun _ _ _ _ h9 => h9⟩
theorem fpX12_49_11 : FPF RX12 49 11 24 (.array .int) := ⟨RX12, TX12, 50, "BorrowedBeatModel", tyX12, rfl, iuX12, by decide, m1180, fun _ _ _ _ h9 => h9, tyX12_ok, nmX12, rfl, tyX12_ok 24 (by decide), rfl⟩
theorem fgX12_52_11 : FG RX12 52 11 27 := ⟨RX12, TX12, 50, "BorrowedBeatModel", rfl, iuX12, by decide, m1183, fun _ _ _ _ h9 => h9⟩
theorem fpX12_52_11 : FP RX12 52 11 27 .int := ⟨RX12, TX12, 50, "BorrowedBeatModel", tyX12, rfl, iuX12, by decide, m1183, fun _ _ _ _ h9 => h9, tyX12_ok, nmX12, rfl, tyX12_ok 27 (by decide)⟩
theorem fgX12_56_11 : FG RX12 56 11 28 := ⟨RX12, TX12, 50, "BorrowedBeatModel", rfl, iuX12, by decide, m1184, fun _ _ _ _ h9 => h9⟩
theorem fpX12_56_11 : FP RX12 56 11 28 .int := ⟨RX12, TX12, 50, "BorrowedBeatModel", tyX12, rfl, iuX12, by decide, m1184, fun _ _ _ _ h9 => h9, tyX12_ok, nmX12, rfl, tyX12_ok 28 (by decide)⟩
theorem fgX12_59_11 : FG RX12 59 11 30 := ⟨RX12, TX12, 50, "BorrowedBeatModel", rfl, iuX12, by decide, m1186, fun _ _ _ _ h9 => h9⟩
theorem fpX12_59_11 : FP RX12 59 11 30 .int := ⟨RX12, TX12, 50, "BorrowedBeatModel", tyX12, rfl, iuX12, by decide, m1186, fun _ _ _ _ h9 => h9, tyX12_ok, nmX12, rfl, tyX12_ok 30 (by decide)⟩
theorem fgX12_62_11 : FG RX12 62 11 31 := ⟨RX12, TX12, 50, "BorrowedBeatModel", rfl, iuX12, by decide, m1187, fun _ _ _ _ h9 => h9⟩
theorem fpX12_62_11 : FPF RX12 62 11 31 (.array .int) := ⟨RX12, TX12, 50, "BorrowedBeatModel", tyX12, rfl, iuX12, by decide, m1187, fun _ _ _ _ h9 => h9, tyX12_ok, nmX12, rfl, tyX12_ok 31 (by decide), rfl⟩
theorem fgX12_65_11 : FG RX12 65 11 33 := ⟨RX12, TX12, 50, "BorrowedBeatModel", rfl, iuX12, by decide, m1189, fun _ _ _ _ h9 => h9⟩
theorem fpX12_65_11 : FPF RX12 65 11 33 (.array .int) := ⟨RX12, TX12, 50, "BorrowedBeatModel", tyX12, rfl, iuX12, by decide, m1189, fun _ _ _ _ h9 => h9, tyX12_ok, nmX12, rfl, tyX12_ok 33 (by decide), rfl⟩
theorem fgX12_68_11 : FG RX12 68 11 34 := ⟨RX12, TX12, 50, "BorrowedBeatModel", rfl, iuX12, by decide, m1190, fun _ _ _ _ h9 => h9⟩
theorem fpX12_68_11 : FPF RX12 68 11 34 (.array .int) := ⟨RX12, TX12, 50, "BorrowedBeatModel", tyX12, rfl, iuX12, by decide, m1190, fun _ _ _ _ h9 => h9, tyX12_ok, nmX12, rfl, tyX12_ok 34 (by decide), rfl⟩
theorem fgX12_71_11 : FG RX12 71 11 35 := ⟨RX12, TX12, 50, "BorrowedBeatModel", rfl, iuX12, by decide, m1191, fun _ _ _ _ h9 => h9⟩
theorem fpX12_71_11 : FPF RX12 71 11 35 (.array .int) := ⟨RX12, TX12, 50, "BorrowedBeatModel", tyX12, rfl, iuX12, by decide, m1191, fun _ _ _ _ h9 => h9, tyX12_ok, nmX12, rfl, tyX12_ok 35 (by decide), rfl⟩
theorem fgX12_74_11 : FG RX12 74 11 36 := ⟨RX12, TX12, 50, "BorrowedBeatModel", rfl, iuX12, by decide, m1192, fun _ _ _ _ h9 => h9⟩
theorem fpX12_74_11 : FPF RX12 74 11 36 (.array .int) := ⟨RX12, TX12, 50, "BorrowedBeatModel", tyX12, rfl, iuX12, by decide, m1192, fun _ _ _ _ h9 => h9, tyX12_ok, nmX12, rfl, tyX12_ok 36 (by decide), rfl⟩
theorem fgX12_77_11 : FG RX12 77 11 37 := ⟨RX12, TX12, 50, "BorrowedBeatModel", rfl, iuX12, by decide, m1193, fun _ _ _ _ h9 => h9⟩
theorem fpX12_77_11 : FPF RX12 77 11 37 (.array .int) := ⟨RX12, TX12, 50, "BorrowedBeatModel", tyX12, rfl, iuX12, by decide, m1193, fun _ _ _ _ h9 => h9, tyX12_ok, nmX12, rfl, tyX12_ok 37 (by decide), rfl⟩
theorem fgX12_80_11 : FG RX12 80 11 40 := ⟨RX12, TX12, 50, "BorrowedBeatModel", rfl, iuX12, by decide, m1196, fun _ _ _ _ h9 => h9⟩
theorem fpX12_80_11 : FPF RX12 80 11 40 (.array .int) := ⟨RX12, TX12, 50, "BorrowedBeatModel", tyX12, rfl, iuX12, by decide, m1196, fun _ _ _ _ h9 => h9, tyX12_ok, nmX12, rfl, tyX12_ok 40 (by decide), rfl⟩
theorem fgX12_83_11 : FG RX12 83 11 41 := ⟨RX12, TX12, 50, "BorrowedBeatModel", rfl, iuX12, by decide, m1197, fun _ _ _ _ h9 => h9⟩
theorem fpX12_83_11 : FPF RX12 83 11 41 (.array .int) := ⟨RX12, TX12, 50, "BorrowedBeatModel", tyX12, rfl, iuX12, by decide, m1197, fun _ _ _ _ h9 => h9, tyX12_ok, nmX12, rfl, tyX12_ok 41 (by decide), rfl⟩
theorem fgX12_86_11 : FG RX12 86 11 42 := ⟨RX12, TX12, 50, "BorrowedBeatModel", rfl, iuX12, by decide, m1198, fun _ _ _ _ h9 => h9⟩
theorem fpX12_86_11 : FPF RX12 86 11 42 (.array .int) := ⟨RX12, TX12, 50, "BorrowedBeatModel", tyX12, rfl, iuX12, by decide, m1198, fun _ _ _ _ h9 => h9, tyX12_ok, nmX12, rfl, tyX12_ok 42 (by decide), rfl⟩
theorem fgX12_89_11 : FG RX12 89 11 43 := ⟨RX12, TX12, 50, "BorrowedBeatModel", rfl, iuX12, by decide, m1199, fun _ _ _ _ h9 => h9⟩
theorem fpX12_89_11 : FPF RX12 89 11 43 (.array .int) := ⟨RX12, TX12, 50, "BorrowedBeatModel", tyX12, rfl, iuX12, by decide, m1199, fun _ _ _ _ h9 => h9, tyX12_ok, nmX12, rfl, tyX12_ok 43 (by decide), rfl⟩
theorem fgX12_92_11 : FG RX12 92 11 44 := ⟨RX12, TX12, 50, "BorrowedBeatModel", rfl, iuX12, by decide, m1200, fun _ _ _ _ h9 => h9⟩
theorem fpX12_92_11 : FPF RX12 92 11 44 (.array .int) := ⟨RX12, TX12, 50, "BorrowedBeatModel", tyX12, rfl, iuX12, by decide, m1200, fun _ _ _ _ h9 => h9, tyX12_ok, nmX12, rfl, tyX12_ok 44 (by decide), rfl⟩
theorem fgX12_95_11 : FG RX12 95 11 45 := ⟨RX12, TX12, 50, "BorrowedBeatModel", rfl, iuX12, by decide, m1201, fun _ _ _ _ h9 => h9⟩
theorem fpX12_95_11 : FPF RX12 95 11 45 (.array .int) := ⟨RX12, TX12, 50, "BorrowedBeatModel", tyX12, rfl, iuX12, by decide, m1201, fun _ _ _ _ h9 => h9, tyX12_ok, nmX12, rfl, tyX12_ok 45 (by decide), rfl⟩
theorem fgX12_98_11 : FG RX12 98 11 47 := ⟨RX12, TX12, 50, "BorrowedBeatModel", rfl, iuX12, by decide, m1203, fun _ _ _ _ h9 => h9⟩
theorem fpX12_98_11 : FPF RX12 98 11 47 (.array .int) := ⟨RX12, TX12, 50, "BorrowedBeatModel", tyX12, rfl, iuX12, by decide, m1203, fun _ _ _ _ h9 => h9, tyX12_ok, nmX12, rfl, tyX12_ok 47 (by decide), rfl⟩
theorem fgX12_101_11 : FG RX12 101 11 0 := ⟨RX12, TX12, 50, "BorrowedBeatModel", rfl, iuX12, by decide, m1156, fun _ _ _ _ h9 => h9⟩
theorem fpX12_101_11 : FP RX12 101 11 0 .int := ⟨RX12, TX12, 50, "BorrowedBeatModel", tyX12, rfl, iuX12, by decide, m1156, fun _ _ _ _ h9 => h9, tyX12_ok, nmX12, rfl, tyX12_ok 0 (by decide)⟩
theorem fgX12_108_11 : FG RX12 108 11 2 := ⟨RX12, TX12, 50, "BorrowedBeatModel", rfl, iuX12, by decide, m1158, fun _ _ _ _ h9 => h9⟩
theorem fpX12_108_11 : FP RX12 108 11 2 .int := ⟨RX12, TX12, 50, "BorrowedBeatModel", tyX12, rfl, iuX12, by decide, m1158, fun _ _ _ _ h9 => h9, tyX12_ok, nmX12, rfl, tyX12_ok 2 (by decide)⟩
theorem fgX12_111_11 : FG RX12 111 11 3 := ⟨RX12, TX12, 50, "BorrowedBeatModel", rfl, iuX12, by decide, m1159, fun _ _ _ _ h9 => h9⟩
theorem fpX12_111_11 : FP RX12 111 11 3 .int := ⟨RX12, TX12, 50, "BorrowedBeatModel", tyX12, rfl, iuX12, by decide, m1159, fun _ _ _ _ h9 => h9, tyX12_ok, nmX12, rfl, tyX12_ok 3 (by decide)⟩
theorem fgX12_118_11 : FG RX12 118 11 4 := ⟨RX12, TX12, 50, "BorrowedBeatModel", rfl, iuX12, by decide, m1160, fun _ _ _ _ h9 => h9⟩
theorem fpX12_118_11 : FP RX12 118 11 4 .int := ⟨RX12, TX12, 50, "BorrowedBeatModel", tyX12, rfl, iuX12, by decide, m1160, fun _ _ _ _ h9 => h9, tyX12_ok, nmX12, rfl, tyX12_ok 4 (by decide)⟩
theorem fgX12_121_11 : FG RX12 121 11 14 := ⟨RX12, TX12, 50, "BorrowedBeatModel", rfl, iuX12, by decide, m1170, fun _ _ _ _ h9 => h9⟩
theorem fpX12_121_11 : FP RX12 121 11 14 .int := ⟨RX12, TX12, 50, "BorrowedBeatModel", tyX12, rfl, iuX12, by decide, m1170, fun _ _ _ _ h9 => h9, tyX12_ok, nmX12, rfl, tyX12_ok 14 (by decide)⟩
theorem fgX12_124_11 : FG RX12 124 11 5 := ⟨RX12, TX12, 50, "BorrowedBeatModel", rfl, iuX12, by decide, m1161, fun _ _ _ _ h9 => h9⟩
theorem fpX12_124_11 : FP RX12 124 11 5 .int := ⟨RX12, TX12, 50, "BorrowedBeatModel", tyX12, rfl, iuX12, by decide, m1161, fun _ _ _ _ h9 => h9, tyX12_ok, nmX12, rfl, tyX12_ok 5 (by decide)⟩
theorem fgX12_220_11 : FG RX12 220 11 18 := ⟨RX12, TX12, 50, "BorrowedBeatModel", rfl, iuX12, by decide, m1174, fun _ _ _ _ h9 => h9⟩
theorem fpX12_220_11 : FP RX12 220 11 18 .int := ⟨RX12, TX12, 50, "BorrowedBeatModel", tyX12, rfl, iuX12, by decide, m1174, fun _ _ _ _ h9 => h9, tyX12_ok, nmX12, rfl, tyX12_ok 18 (by decide)⟩
theorem fgX12_237_11 : FG RX12 237 11 19 := ⟨RX12, TX12, 50, "BorrowedBeatModel", rfl, iuX12, by decide, m1175, fun _ _ _ _ h9 => h9⟩
theorem fpX12_237_11 : FP RX12 237 11 19 .int := ⟨RX12, TX12, 50, "BorrowedBeatModel", tyX12, rfl, iuX12, by decide, m1175, fun _ _ _ _ h9 => h9, tyX12_ok, nmX12, rfl, tyX12_ok 19 (by decide)⟩
theorem fgX12_253_11 : FG RX12 253 11 21 := ⟨RX12, TX12, 50, "BorrowedBeatModel", rfl, iuX12, by decide, m1177, fun _ _ _ _ h9 => h9⟩
theorem fpX12_253_11 : FP RX12 253 11 21 .int := ⟨RX12, TX12, 50, "BorrowedBeatModel", tyX12, rfl, iuX12, by decide, m1177, fun _ _ _ _ h9 => h9, tyX12_ok, nmX12, rfl, tyX12_ok 21 (by decide)⟩
theorem fgX12_256_11 : FG RX12 256 11 22 := ⟨RX12, TX12, 50, "BorrowedBeatModel", rfl, iuX12, by decide, m1178, fun _ _ _ _ h9 => h9⟩
theorem fpX12_256_11 : FP RX12 256 11 22 .int := ⟨RX12, TX12, 50, "BorrowedBeatModel", tyX12, rfl, iuX12, by decide, m1178, fun _ _ _ _ h9 => h9, tyX12_ok, nmX12, rfl, tyX12_ok 22 (by decide)⟩
theorem fgX12_259_11 : FG RX12 259 11 25 := ⟨RX12, TX12, 50, "BorrowedBeatModel", rfl, iuX12, by decide, m1181, fun _ _ _ _ h9 => h9⟩
theorem fpX12_259_11 : FP RX12 259 11 25 .int := ⟨RX12, TX12, 50, "BorrowedBeatModel", tyX12, rfl, iuX12, by decide, m1181, fun _ _ _ _ h9 => h9, tyX12_ok, nmX12, rfl, tyX12_ok 25 (by decide)⟩
theorem fgX12_262_11 : FG RX12 262 11 32 := ⟨RX12, TX12, 50, "BorrowedBeatModel", rfl, iuX12, by decide, m1188, fun _ _ _ _ h9 => h9⟩
theorem fpX12_262_11 : FP RX12 262 11 32 .int := ⟨RX12, TX12, 50, "BorrowedBeatModel", tyX12, rfl, iuX12, by decide, m1188, fun _ _ _ _ h9 => h9, tyX12_ok, nmX12, rfl, tyX12_ok 32 (by decide)⟩
theorem fgX12_265_11 : FG RX12 265 11 26 := ⟨RX12, TX12, 50, "BorrowedBeatModel", rfl, iuX12, by decide, m1182, fun _ _ _ _ h9 => h9⟩
theorem fpX12_265_11 : FP RX12 265 11 26 .int := ⟨RX12, TX12, 50, "BorrowedBeatModel", tyX12, rfl, iuX12, by decide, m1182, fun _ _ _ _ h9 => h9, tyX12_ok, nmX12, rfl, tyX12_ok 26 (by decide)⟩
theorem fgX12_268_11 : FG RX12 268 11 46 := ⟨RX12, TX12, 50, "BorrowedBeatModel", rfl, iuX12, by decide, m1202, fun _ _ _ _ h9 => h9⟩
theorem fpX12_268_11 : FP RX12 268 11 46 .int := ⟨RX12, TX12, 50, "BorrowedBeatModel", tyX12, rfl, iuX12, by decide, m1202, fun _ _ _ _ h9 => h9, tyX12_ok, nmX12, rfl, tyX12_ok 46 (by decide)⟩
theorem fgX12_271_11 : FG RX12 271 11 49 := ⟨RX12, TX12, 50, "BorrowedBeatModel", rfl, iuX12, by decide, m1205, fun _ _ _ _ h9 => h9⟩
theorem fpX12_271_11 : FP RX12 271 11 49 .boolean := ⟨RX12, TX12, 50, "BorrowedBeatModel", tyX12, rfl, iuX12, by decide, m1205, fun _ _ _ _ h9 => h9, tyX12_ok, nmX12, rfl, tyX12_ok 49 (by decide)⟩
theorem fgX12_278_11 : FG RX12 278 11 13 := ⟨RX12, TX12, 50, "BorrowedBeatModel", rfl, iuX12, by decide, m1169, fun _ _ _ _ h9 => h9⟩
theorem fpX12_278_11 : FP RX12 278 11 13 .int := ⟨RX12, TX12, 50, "BorrowedBeatModel", tyX12, rfl, iuX12, by decide, m1169, fun _ _ _ _ h9 => h9, tyX12_ok, nmX12, rfl, tyX12_ok 13 (by decide)⟩
theorem fgX12_287_11 : FG RX12 287 11 29 := ⟨RX12, TX12, 50, "BorrowedBeatModel", rfl, iuX12, by decide, m1185, fun _ _ _ _ h9 => h9⟩
theorem fpX12_287_11 : FP RX12 287 11 29 .int := ⟨RX12, TX12, 50, "BorrowedBeatModel", tyX12, rfl, iuX12, by decide, m1185, fun _ _ _ _ h9 => h9, tyX12_ok, nmX12, rfl, tyX12_ok 29 (by decide)⟩
theorem fgX12_330_11 : FG RX12 330 11 38 := ⟨RX12, TX12, 50, "BorrowedBeatModel", rfl, iuX12, by decide, m1194, fun _ _ _ _ h9 => h9⟩
theorem fpX12_330_11 : FP RX12 330 11 38 .int := ⟨RX12, TX12, 50, "BorrowedBeatModel", tyX12, rfl, iuX12, by decide, m1194, fun _ _ _ _ h9 => h9, tyX12_ok, nmX12, rfl, tyX12_ok 38 (by decide)⟩
theorem fgX12_333_11 : FG RX12 333 11 39 := ⟨RX12, TX12, 50, "BorrowedBeatModel", rfl, iuX12, by decide, m1195, fun _ _ _ _ h9 => h9⟩
theorem fpX12_333_11 : FP RX12 333 11 39 .int := ⟨RX12, TX12, 50, "BorrowedBeatModel", tyX12, rfl, iuX12, by decide, m1195, fun _ _ _ _ h9 => h9, tyX12_ok, nmX12, rfl, tyX12_ok 39 (by decide)⟩
theorem fgX12_368_11 : FG RX12 368 11 48 := ⟨RX12, TX12, 50, "BorrowedBeatModel", rfl, iuX12, by decide, m1204, fun _ _ _ _ h9 => h9⟩
theorem fpX12_368_11 : FP RX12 368 11 48 .int := ⟨RX12, TX12, 50, "BorrowedBeatModel", tyX12, rfl, iuX12, by decide, m1204, fun _ _ _ _ h9 => h9, tyX12_ok, nmX12, rfl, tyX12_ok 48 (by decide)⟩
theorem lkX11_9 : LkIN RX11 9 "BorrowedBeat" yX7_init cX7_init 1 0 := ⟨⟨mn116, m117, m86, m118⟩, okd_yX7_init, rfl⟩
theorem lkX11_18 : LkI RX11 18 yX9_init cX9_init 2 1 := ⟨⟨m133, m134, m88, m135⟩, okd_yX9_init, rfl⟩
theorem lkX11_27 : LkI RX11 27 yX2_init cX2_init 2 1 := ⟨⟨m207, m208, m90, m209⟩, okd_yX2_init, rfl⟩
theorem lkX11_34 : LkIN RX11 34 "BorrowedBeat" yX8_init cX8_init 1 0 := ⟨⟨mn222, m143, m89, m144⟩, okd_yX8_init, rfl⟩
theorem lkX11_47 : LkIN RX11 47 "BorrowedBeat" yX0_init cX0_init 1 0 := ⟨⟨mn227, m228, m91, m229⟩, okd_yX0_init, rfl⟩
theorem lkX11_58 : LkIN RX11 58 "BorrowedBeat" yX6_init cX6_init 1 0 := ⟨⟨mn258, m259, m92, m260⟩, okd_yX6_init, rfl⟩
theorem lkX11_68 : LkIN RX11 68 "BorrowedBeat" yX4_init cX4_init 1 0 := ⟨⟨mn309, m310, m93, m311⟩, okd_yX4_init, rfl⟩
theorem lkX11_75 : LkIN RX11 75 "BorrowedBeat" yX3_init cX3_init 1 0 := ⟨⟨mn346, m347, m94, m348⟩, okd_yX3_init, rfl⟩
theorem lkX11_82 : LkI RX11 82 yX10_init cX10_init 3 2 := ⟨⟨m370, m371, m95, m372⟩, okd_yX10_init, rfl⟩
theorem lkX11_96 : LkS RX11 96 yX7_bytesIn cX7_bytesIn 3 (some .int) 1 := ⟨⟨m453, m454, m86, m455⟩, okd_yX7_bytesIn⟩
theorem lkX11_103 : LkV RX11 103 yX7_push cX7_push 4 none 1 := ⟨⟨m456, m457, m458, m86, m459⟩, okd_yX7_push⟩
theorem lkX11_107_8 : LkU RX11 107 RX9 "BorrowedBeat$Reader" ⟨"BorrowedBeat$TownReader", "read", "()I"⟩ yX5_read cX5_read 3 (some .int) 0 := ⟨⟨m468, m469, m471, m472, m87, m473⟩, rfl, okd___BorrowedBeat_Reader____read______I__⟩
theorem lkX11_111_2 : LkU RX11 111 RX2 "BorrowedBeat$Reader" ⟨"BorrowedBeat$LawReader", "read", "()I"⟩ yX5_read cX5_read 3 (some .int) 0 := ⟨⟨m615, m616, m617, m472, m87, m473⟩, rfl, okd___BorrowedBeat_Reader____read______I__⟩
theorem lkX11_112 : LkV RX11 112 yX11_openTown cX11_openTown 3 none 0 := ⟨⟨m622, m624, m11, m85, m625⟩, okd_yX11_openTown⟩
theorem lkX11_121 : LkV RX11 121 yX2_toLaw cX2_toLaw 1 (some (.object "BorrowedBeat$Law")) 0 := ⟨⟨m649, m650, m651, m90, m652⟩, okd_yX2_toLaw⟩
theorem lkX11_128 : LkV RX11 128 yX8_copyFrom cX8_copyFrom 2 none 1 := ⟨⟨m626, m627, m628, m89, m629⟩, okd_yX8_copyFrom⟩
theorem lkX11_132 : LkV RX11 132 yX6_open cX6_open 2 none 1 := ⟨⟨m633, m634, m635, m92, m636⟩, okd_yX6_open⟩
theorem lkX11_135 : LkV RX11 135 yX0_open cX0_open 1 none 0 := ⟨⟨m641, m642, m643, m91, m644⟩, okd_yX0_open⟩
theorem lkX11_140 : LkV RX11 140 yX1_forget cX1_forget 1 none 0 := ⟨⟨m645, m646, m647, m99, m648⟩, okd_yX1_forget⟩
theorem lkX11_147 : LkV RX11 147 yX11_isPlayer cX11_isPlayer 2 (some .boolean) 1 := ⟨⟨m702, m704, m13, m85, m705⟩, okd_yX11_isPlayer⟩
theorem lkX11_179 : LkV RX11 179 yX11_mostOf cX11_mostOf 2 (some .int) 1 := ⟨⟨m693, m695, m12, m85, m696⟩, okd_yX11_mostOf⟩
theorem lkX11_189 : LkV RX11 189 yX11_mayTell cX11_mayTell 4 (some .boolean) 3 := ⟨⟨m706, m708, m14, m85, m709⟩, okd_yX11_mayTell⟩
theorem lkX11_193 : LkV RX11 193 yX6_isMarked cX6_isMarked 2 (some .boolean) 1 := ⟨⟨m714, m715, m716, m92, m717⟩, okd_yX6_isMarked⟩
theorem lkX11_199 : LkV RX11 199 yX11_wetness cX11_wetness 3 (some .int) 1 := ⟨⟨m722, m724, m15, m85, m725⟩, okd_yX11_wetness⟩
theorem lkX11_202 : LkV RX11 202 yX1_wetness cX1_wetness 4 (some .int) 2 := ⟨⟨m726, m727, m728, m99, m729⟩, okd_yX1_wetness⟩
theorem lkX11_208 : LkV RX11 208 yX0_keep cX0_keep 2 none 1 := ⟨⟨m766, m767, m768, m91, m769⟩, okd_yX0_keep⟩
theorem lkX11_212 : LkV RX11 212 yX8_goThroughDay cX8_goThroughDay 5 none 3 := ⟨⟨m772, m773, m774, m89, m775⟩, okd_yX8_goThroughDay⟩
theorem lkX11_219 : LkV RX11 219 yX0_takeBack cX0_takeBack 2 none 1 := ⟨⟨m785, m786, m787, m91, m788⟩, okd_yX0_takeBack⟩
theorem lkX11_222 : LkV RX11 222 yX0_takeImage cX0_takeImage 2 none 1 := ⟨⟨m793, m794, m795, m91, m796⟩, okd_yX0_takeImage⟩
theorem lkX11_228 : LkV RX11 228 yX0_comeBack cX0_comeBack 2 none 1 := ⟨⟨m801, m802, m803, m91, m804⟩, okd_yX0_comeBack⟩
theorem lkX11_231 : LkV RX11 231 yX11_isBar cX11_isBar 2 (some .boolean) 1 := ⟨⟨m809, m811, m20, m85, m812⟩, okd_yX11_isBar⟩
theorem lkX11_235 : LkV RX11 235 yX4_perform cX4_perform 6 (some .int) 2 := ⟨⟨m814, m815, m816, m93, m817⟩, okd_yX4_perform⟩
theorem lkX11_239 : LkV RX11 239 yX4_aheadOfWaiting cX4_aheadOfWaiting 3 (some .int) 2 := ⟨⟨m837, m838, m839, m93, m840⟩, okd_yX4_aheadOfWaiting⟩
theorem lkX11_243 : LkV RX11 243 yX4_behindWaiting cX4_behindWaiting 3 (some .int) 2 := ⟨⟨m841, m842, m843, m93, m844⟩, okd_yX4_behindWaiting⟩
theorem lkX11_246 : LkV RX11 246 yX4_beatIn cX4_beatIn 3 (some .int) 2 := ⟨⟨m854, m855, m856, m93, m857⟩, okd_yX4_beatIn⟩
theorem lkX11_252 : LkV RX11 252 yX11_isOneOfTwo cX11_isOneOfTwo 2 (some .boolean) 1 := ⟨⟨m866, m868, m24, m85, m869⟩, okd_yX11_isOneOfTwo⟩
theorem lkX11_255 : LkV RX11 255 yX4_firstSpreadAbove cX4_firstSpreadAbove 3 (some .int) 1 := ⟨⟨m870, m871, m872, m93, m873⟩, okd_yX4_firstSpreadAbove⟩
theorem lkX11_258 : LkV RX11 258 yX4_lastIn cX4_lastIn 4 (some .int) 1 := ⟨⟨m882, m850, m851, m93, m852⟩, okd_yX4_lastIn⟩
theorem lkX11_261 : LkV RX11 261 yX4_settles cX4_settles 4 (some .boolean) 1 := ⟨⟨m887, m888, m889, m93, m890⟩, okd_yX4_settles⟩
theorem lkX11_271 : LkV RX11 271 yX4_inPlace cX4_inPlace 4 (some .int) 2 := ⟨⟨m899, m900, m901, m93, m902⟩, okd_yX4_inPlace⟩
theorem lkX11_274 : LkV RX11 274 yX4_turns cX4_turns 7 (some .int) 2 := ⟨⟨m911, m912, m913, m93, m914⟩, okd_yX4_turns⟩
theorem lkX11_277 : LkV RX11 277 yX4_innermost cX4_innermost 5 (some .int) 0 := ⟨⟨m926, m927, m928, m93, m929⟩, okd_yX4_innermost⟩
theorem lkX11_280 : LkV RX11 280 yX4_greatestIn cX4_greatestIn 2 (some .int) 1 := ⟨⟨m941, m846, m847, m93, m848⟩, okd_yX4_greatestIn⟩
theorem lkX11_283 : LkV RX11 283 yX4_firstChange cX4_firstChange 4 (some .int) 2 := ⟨⟨m946, m947, m948, m93, m949⟩, okd_yX4_firstChange⟩
theorem lkX11_286 : LkV RX11 286 yX6_aheadOf cX6_aheadOf 5 (some .int) 2 := ⟨⟨m955, m956, m957, m92, m958⟩, okd_yX6_aheadOf⟩
theorem lkX11_289 : LkV RX11 289 yX6_copyFrom cX6_copyFrom 2 none 1 := ⟨⟨m967, m968, m969, m92, m970⟩, okd_yX6_copyFrom⟩
theorem lkX11_292 : LkV RX11 292 yX11_isToldSo cX11_isToldSo 4 (some .boolean) 0 := ⟨⟨m983, m985, m29, m85, m986⟩, okd_yX11_isToldSo⟩
theorem lkX11_296 : LkV RX11 296 yX4_isAloneLast cX4_isAloneLast 4 (some .boolean) 2 := ⟨⟨m999, m1000, m1001, m93, m1002⟩, okd_yX4_isAloneLast⟩
theorem lkX11_300 : LkV RX11 300 yX3_find cX3_find 5 (some .boolean) 3 := ⟨⟨m1007, m1008, m1009, m94, m1010⟩, okd_yX3_find⟩
theorem lkX11_313 : LkV RX11 313 yX10_find cX10_find 4 none 2 := ⟨⟨m1036, m1037, m1038, m95, m1039⟩, okd_yX10_find⟩
theorem lkX11_328 : LkV RX11 328 yX8_drifted cX8_drifted 6 (some .int) 4 := ⟨⟨m1067, m777, m778, m89, m779⟩, okd_yX8_drifted⟩
theorem lkX11_332 : LkS RX11 332 yX11_rowsWithSum cX11_rowsWithSum 2 (some .int) 2 := ⟨⟨m1068, m1069, m85, m1070⟩, okd_yX11_rowsWithSum⟩
theorem lkX0_38 : LkS RX0 38 yJ9_min_7cf53 cJ9_min_7cf53 2 (some .int) 2 := ⟨⟨m771, m666, m100, m667⟩, okd_yJ9_min_7cf53⟩
theorem lkX1_25 : LkV RX1 25 yX1_worth cX1_worth 7 (some .int) 3 := ⟨⟨m730, m732, m16, m99, m733⟩, okd_yX1_worth⟩
theorem lkX1_29 : LkSN RX1 29 "BorrowedBeat" yX11_held cX11_held 3 (some .int) 3 := ⟨⟨mn751, m752, m85, m753⟩, okd_yX11_held⟩
theorem lkX1_36 : LkV RX1 36 yX1_push cX1_push 2 none 1 := ⟨⟨m734, m736, m17, m99, m737⟩, okd_yX1_push⟩
theorem lkX1_40 : LkV RX1 40 yX1_pop cX1_pop 1 (some .int) 0 := ⟨⟨m738, m740, m18, m99, m741⟩, okd_yX1_pop⟩
theorem lkX1_44 : LkV RX1 44 yX1_work cX1_work 6 none 4 := ⟨⟨m742, m744, m19, m99, m745⟩, okd_yX1_work⟩
theorem lkX1_56 : LkS RX1 56 yX1_joined cX1_joined 5 (some .int) 3 := ⟨⟨m746, m747, m99, m748⟩, okd_yX1_joined⟩
theorem lkX1_65 : LkS RX1 65 yJ9_min_f86c9 cJ9_min_f86c9 4 (some .long) 2 := ⟨⟨m756, m757, m100, m758⟩, okd_yJ9_min_f86c9⟩
theorem lkX1_71 : LkS RX1 71 yJ9_max_f86c9 cJ9_max_f86c9 4 (some .long) 2 := ⟨⟨m759, m760, m100, m761⟩, okd_yJ9_max_f86c9⟩
theorem lkX2_3 : LkI RX2 3 yX5_init cX5_init 2 1 := ⟨⟨m210, m137, m87, m138⟩, okd_yX5_init, rfl⟩
theorem lkX2_23 : LkS RX2 23 yJ7_copyOf_59c91 cJ7_copyOf_59c91 3 (some (.array .int)) 2 := ⟨⟨m655, m656, m98, m657⟩, okd_yJ7_copyOf_59c91⟩
theorem lkX2_29 : LkI RX2 29 yX1_init cX1_init 4 1 := ⟨⟨m669, m670, m99, m671⟩, okd_yX1_init, rfl⟩
theorem lkX2_32_2 : LkU RX2 32 RX2 "BorrowedBeat$Reader" ⟨"BorrowedBeat$LawReader", "take", "(I)Z"⟩ yX5_take cX5_take 2 (some .boolean) 1 := ⟨⟨m493, m494, m496, m497, m87, m498⟩, rfl, okd___BorrowedBeat_Reader____take_____I_Z__⟩
theorem lkX2_36_2 : LkU RX2 36 RX2 "BorrowedBeat$Reader" ⟨"BorrowedBeat$LawReader", "fail", "()Z"⟩ yX5_fail cX5_fail 1 (some .boolean) 0 := ⟨⟨m505, m506, m508, m509, m87, m510⟩, rfl, okd___BorrowedBeat_Reader____fail______Z__⟩
theorem lkX2_40_2 : LkU RX2 40 RX2 "BorrowedBeat$Reader" ⟨"BorrowedBeat$LawReader", "peek", "()I"⟩ yX5_peek cX5_peek 1 (some .int) 0 := ⟨⟨m511, m512, m514, m500, m87, m504⟩, rfl, okd___BorrowedBeat_Reader____peek______I__⟩
theorem lkX2_44 : LkV RX2 44 yX2_condition cX2_condition 2 (some .boolean) 1 := ⟨⟨m515, m517, m0, m90, m518⟩, okd_yX2_condition⟩
theorem lkX2_47 : LkV RX2 47 yX2_sumBehindCondition cX2_sumBehindCondition 1 (some .boolean) 0 := ⟨⟨m562, m564, m8, m90, m565⟩, okd_yX2_sumBehindCondition⟩
theorem lkX2_50 : LkV RX2 50 yX2_sum cX2_sum 6 (some .boolean) 1 := ⟨⟨m523, m525, m2, m90, m526⟩, okd_yX2_sum⟩
theorem lkX2_53 : LkS RX2 53 yX2_isComparison cX2_isComparison 1 (some .boolean) 1 := ⟨⟨m551, m552, m90, m553⟩, okd_yX2_isComparison⟩
theorem lkX2_56 : LkV RX2 56 yX2_emit cX2_emit 2 (some .boolean) 1 := ⟨⟨m543, m545, m4, m90, m546⟩, okd_yX2_emit⟩
theorem lkX2_59 : LkV RX2 59 yX2_comparison cX2_comparison 3 (some .boolean) 1 := ⟨⟨m547, m549, m5, m90, m550⟩, okd_yX2_comparison⟩
theorem lkX2_62 : LkV RX2 62 yX2_moreUnits cX2_moreUnits 6 (some .boolean) 1 := ⟨⟨m558, m560, m7, m90, m561⟩, okd_yX2_moreUnits⟩
theorem lkX2_65 : LkV RX2 65 yX2_unit cX2_unit 3 (some .boolean) 1 := ⟨⟨m519, m521, m1, m90, m522⟩, okd_yX2_unit⟩
theorem lkX2_71 : LkV RX2 71 yX2_negated cX2_negated 2 (some .boolean) 1 := ⟨⟨m554, m556, m6, m90, m557⟩, okd_yX2_negated⟩
theorem lkX2_74 : LkV RX2 74 yX2_atom cX2_atom 4 (some .boolean) 1 := ⟨⟨m527, m529, m3, m90, m530⟩, okd_yX2_atom⟩
theorem lkX2_80_2 : LkU RX2 80 RX2 "BorrowedBeat$Reader" ⟨"BorrowedBeat$LawReader", "readNumber", "(III)I"⟩ yX5_readNumber cX5_readNumber 6 (some .int) 3 := ⟨⟨m535, m536, m538, m539, m87, m540⟩, rfl, okd___BorrowedBeat_Reader____readNumber_____III_I__⟩
theorem lkX3_22 : LkS RX3 22 yJ7_fill_53178 cJ7_fill_53178 4 none 2 := ⟨⟨m1012, m639, m98, m640⟩, okd_yJ7_fill_53178⟩
theorem lkX3_40 : LkV RX3 40 yX3_goOnFrom cX3_goOnFrom 6 none 4 := ⟨⟨m1013, m1015, m30, m94, m1016⟩, okd_yX3_goOnFrom⟩
theorem lkX3_44 : LkV RX3 44 yX3_spreadBehind cX3_spreadBehind 7 (some .int) 3 := ⟨⟨m1017, m1019, m31, m94, m1020⟩, okd_yX3_spreadBehind⟩
theorem lkX3_48 : LkV RX3 48 yX3_endBetter cX3_endBetter 3 none 2 := ⟨⟨m1024, m1026, m32, m94, m1027⟩, okd_yX3_endBetter⟩
theorem lkX3_52 : LkV RX3 52 yX3_markBetter cX3_markBetter 4 none 3 := ⟨⟨m1028, m1030, m33, m94, m1031⟩, okd_yX3_markBetter⟩
theorem lkX3_59 : LkV RX3 59 yX4_beatIn cX4_beatIn 3 (some .int) 2 := ⟨⟨m1021, m855, m856, m93, m857⟩, okd_yX4_beatIn⟩
theorem lkX3_68 : LkS RX3 68 yJ9_max_7cf53 cJ9_max_7cf53 2 (some .int) 2 := ⟨⟨m1022, m827, m100, m828⟩, okd_yJ9_max_7cf53⟩
theorem lkX3_73 : LkS RX3 73 yJ9_min_7cf53 cJ9_min_7cf53 2 (some .int) 2 := ⟨⟨m1023, m666, m100, m667⟩, okd_yJ9_min_7cf53⟩
theorem lkX4_24 : LkV RX4 24 yX4_open cX4_open 3 none 1 := ⟨⟨m818, m820, m21, m93, m821⟩, okd_yX4_open⟩
theorem lkX4_32 : LkV RX4 32 yX4_goOn cX4_goOn 9 none 2 := ⟨⟨m822, m824, m22, m93, m825⟩, okd_yX4_goOn⟩
theorem lkX4_36 : LkV RX4 36 yX4_playBar cX4_playBar 8 (some .int) 2 := ⟨⟨m830, m832, m23, m93, m833⟩, okd_yX4_playBar⟩
theorem lkX4_40 : LkS RX4 40 yJ9_max_7cf53 cJ9_max_7cf53 2 (some .int) 2 := ⟨⟨m826, m827, m100, m828⟩, okd_yJ9_max_7cf53⟩
theorem lkX4_67 : LkSN RX4 67 "BorrowedBeat" yX11_held cX11_held 3 (some .int) 3 := ⟨⟨mn829, m752, m85, m753⟩, okd_yX11_held⟩
theorem lkX4_75 : LkV RX4 75 yX6_isMarked cX6_isMarked 2 (some .boolean) 1 := ⟨⟨m835, m715, m716, m92, m717⟩, okd_yX6_isMarked⟩
theorem lkX4_79 : LkS RX4 79 yJ7_fill_53178 cJ7_fill_53178 4 none 2 := ⟨⟨m836, m639, m98, m640⟩, okd_yJ7_fill_53178⟩
theorem lkX4_85 : LkV RX4 85 yX4_greatestIn cX4_greatestIn 2 (some .int) 1 := ⟨⟨m845, m846, m847, m93, m848⟩, okd_yX4_greatestIn⟩
theorem lkX4_89 : LkV RX4 89 yX4_aheadOfWaiting cX4_aheadOfWaiting 3 (some .int) 2 := ⟨⟨m853, m838, m839, m93, m840⟩, okd_yX4_aheadOfWaiting⟩
theorem lkX4_92 : LkV RX4 92 yX4_lastIn cX4_lastIn 4 (some .int) 1 := ⟨⟨m849, m850, m851, m93, m852⟩, okd_yX4_lastIn⟩
theorem lkX4_95 : LkV RX4 95 yX4_placeOf cX4_placeOf 7 (some .int) 2 := ⟨⟨m903, m905, m26, m93, m906⟩, okd_yX4_placeOf⟩
theorem lkX4_98 : LkV RX4 98 yX4_order cX4_order 4 (some .int) 3 := ⟨⟨m915, m917, m27, m93, m918⟩, okd_yX4_order⟩
theorem lkX4_101 : LkS RX4 101 yJ6_compare_7cf53 cJ6_compare_7cf53 2 (some .int) 2 := ⟨⟨m919, m920, m105, m921⟩, okd_yJ6_compare_7cf53⟩
theorem lkX4_106 : LkV RX4 106 yX4_apartFromAll cX4_apartFromAll 5 (some .int) 2 := ⟨⟨m930, m932, m28, m93, m933⟩, okd_yX4_apartFromAll⟩
theorem lkX4_109 : LkS RX4 109 yJ9_abs_0f7a4 cJ9_abs_0f7a4 1 (some .int) 1 := ⟨⟨m934, m935, m100, m936⟩, okd_yJ9_abs_0f7a4⟩
theorem lkX4_112 : LkV RX4 112 yX4_beatIn cX4_beatIn 3 (some .int) 2 := ⟨⟨m950, m855, m856, m93, m857⟩, okd_yX4_beatIn⟩
theorem lkX4_115 : LkV RX4 115 yX4_soundsLike cX4_soundsLike 7 (some .boolean) 2 := ⟨⟨m891, m893, m25, m93, m894⟩, okd_yX4_soundsLike⟩
theorem lkX5_22_2 : LkA RX5 22 RX2 "BorrowedBeat$Reader" ⟨"BorrowedBeat$Reader", "clear", "()V"⟩ yX2_clear cX2_clear 1 none 0 := ⟨⟨m474, m476, m477, m478, m90, m479⟩, mn475, okd___BorrowedBeat_Reader____clear______V__⟩
theorem lkX5_22_8 : LkA RX5 22 RX9 "BorrowedBeat$Reader" ⟨"BorrowedBeat$Reader", "clear", "()V"⟩ yX9_clear cX9_clear 1 none 0 := ⟨⟨m474, m476, m480, m481, m88, m482⟩, mn475, okd___BorrowedBeat_Reader____clear______V__⟩
theorem lkX5_27_2 : LkA RX5 27 RX2 "BorrowedBeat$Reader" ⟨"BorrowedBeat$Reader", "readClause", "()Z"⟩ yX2_readClause cX2_readClause 2 (some .boolean) 0 := ⟨⟨m487, m489, m490, m491, m90, m492⟩, mn488, okd___BorrowedBeat_Reader____readClause______Z__⟩
theorem lkX5_27_8 : LkA RX5 27 RX9 "BorrowedBeat$Reader" ⟨"BorrowedBeat$Reader", "readClause", "()Z"⟩ yX9_readClause cX9_readClause 2 (some .boolean) 0 := ⟨⟨m487, m489, m566, m567, m88, m568⟩, mn488, okd___BorrowedBeat_Reader____readClause______Z__⟩
theorem lkX5_31_2 : LkU RX5 31 RX2 "BorrowedBeat$Reader" ⟨"BorrowedBeat$Reader", "nextClause", "()Z"⟩ yX5_nextClause cX5_nextClause 1 (some .boolean) 0 := ⟨⟨m601, m1690, m1710, m603, m87, m604⟩, rfl, okd___BorrowedBeat_Reader____nextClause______Z__⟩
theorem lkX5_31_8 : LkU RX5 31 RX9 "BorrowedBeat$Reader" ⟨"BorrowedBeat$Reader", "nextClause", "()Z"⟩ yX5_nextClause cX5_nextClause 1 (some .boolean) 0 := ⟨⟨m601, m1690, m1711, m603, m87, m604⟩, rfl, okd___BorrowedBeat_Reader____nextClause______Z__⟩
theorem lkX5_34_2 : LkA RX5 34 RX2 "BorrowedBeat$Reader" ⟨"BorrowedBeat$Reader", "isWhole", "()Z"⟩ yX2_isWhole cX2_isWhole 1 (some .boolean) 0 := ⟨⟨m606, m608, m609, m610, m90, m611⟩, mn607, okd___BorrowedBeat_Reader____isWhole______Z__⟩
theorem lkX5_34_8 : LkA RX5 34 RX9 "BorrowedBeat$Reader" ⟨"BorrowedBeat$Reader", "isWhole", "()Z"⟩ yX9_isWhole cX9_isWhole 2 (some .boolean) 0 := ⟨⟨m606, m608, m612, m613, m88, m614⟩, mn607, okd___BorrowedBeat_Reader____isWhole______Z__⟩
theorem lkX5_40_2 : LkU RX5 40 RX2 "BorrowedBeat$Reader" ⟨"BorrowedBeat$Reader", "peek", "()I"⟩ yX5_peek cX5_peek 1 (some .int) 0 := ⟨⟨m499, m501, m502, m500, m87, m504⟩, rfl, okd___BorrowedBeat_Reader____peek______I__⟩
theorem lkX5_40_8 : LkU RX5 40 RX9 "BorrowedBeat$Reader" ⟨"BorrowedBeat$Reader", "peek", "()I"⟩ yX5_peek cX5_peek 1 (some .int) 0 := ⟨⟨m499, m501, m503, m500, m87, m504⟩, rfl, okd___BorrowedBeat_Reader____peek______I__⟩
theorem lkX5_44_2 : LkU RX5 44 RX2 "BorrowedBeat$Reader" ⟨"BorrowedBeat$Reader", "take", "(I)Z"⟩ yX5_take cX5_take 2 (some .boolean) 1 := ⟨⟨m605, m1691, m1692, m497, m87, m498⟩, rfl, okd___BorrowedBeat_Reader____take_____I_Z__⟩
theorem lkX5_44_8 : LkU RX5 44 RX9 "BorrowedBeat$Reader" ⟨"BorrowedBeat$Reader", "take", "(I)Z"⟩ yX5_take cX5_take 2 (some .boolean) 1 := ⟨⟨m605, m1691, m1693, m497, m87, m498⟩, rfl, okd___BorrowedBeat_Reader____take_____I_Z__⟩
theorem lkX5_48_2 : LkU RX5 48 RX2 "BorrowedBeat$Reader" ⟨"BorrowedBeat$Reader", "fail", "()Z"⟩ yX5_fail cX5_fail 1 (some .boolean) 0 := ⟨⟨m542, m1687, m1688, m509, m87, m510⟩, rfl, okd___BorrowedBeat_Reader____fail______Z__⟩
theorem lkX5_48_8 : LkU RX5 48 RX9 "BorrowedBeat$Reader" ⟨"BorrowedBeat$Reader", "fail", "()Z"⟩ yX5_fail cX5_fail 1 (some .boolean) 0 := ⟨⟨m542, m1687, m1689, m509, m87, m510⟩, rfl, okd___BorrowedBeat_Reader____fail______Z__⟩
theorem lkX5_55 : LkS RX5 55 yX5_isDigit cX5_isDigit 1 (some .boolean) 1 := ⟨⟨m541, m533, m87, m534⟩, okd_yX5_isDigit⟩
theorem lkX6_46 : LkS RX6 46 yJ7_fill_53178 cJ7_fill_53178 4 none 2 := ⟨⟨m638, m639, m98, m640⟩, okd_yJ7_fill_53178⟩
theorem lkX8_40 : LkSN RX8 40 "BorrowedBeat" yX11_held cX11_held 3 (some .int) 3 := ⟨⟨mn780, m752, m85, m753⟩, okd_yX11_held⟩
theorem lkX8_44 : LkV RX8 44 yX8_drifted cX8_drifted 6 (some .int) 4 := ⟨⟨m776, m777, m778, m89, m779⟩, okd_yX8_drifted⟩
theorem lkX9_3 : LkI RX9 3 yX5_init cX5_init 2 1 := ⟨⟨m136, m137, m87, m138⟩, okd_yX5_init, rfl⟩
theorem lkX9_11 : LkIN RX9 11 "BorrowedBeat" yX8_init cX8_init 1 0 := ⟨⟨mn142, m143, m89, m144⟩, okd_yX8_init, rfl⟩
theorem lkX9_20 : LkV RX9 20 yX8_clear cX8_clear 1 none 0 := ⟨⟨m483, m484, m485, m89, m486⟩, okd_yX8_clear⟩
theorem lkX9_27_8 : LkU RX9 27 RX9 "BorrowedBeat$Reader" ⟨"BorrowedBeat$TownReader", "peek", "()I"⟩ yX5_peek cX5_peek 1 (some .int) 0 := ⟨⟨m569, m570, m571, m500, m87, m504⟩, rfl, okd___BorrowedBeat_Reader____peek______I__⟩
theorem lkX9_38 : LkV RX9 38 yX8_addPlayer cX8_addPlayer 1 none 0 := ⟨⟨m572, m573, m574, m89, m575⟩, okd_yX8_addPlayer⟩
theorem lkX9_41 : LkV RX9 41 yX9_readItems cX9_readItems 6 (some .boolean) 1 := ⟨⟨m576, m578, m9, m88, m579⟩, okd_yX9_readItems⟩
theorem lkX9_45_8 : LkU RX9 45 RX9 "BorrowedBeat$Reader" ⟨"BorrowedBeat$TownReader", "fail", "()Z"⟩ yX5_fail cX5_fail 1 (some .boolean) 0 := ⟨⟨m583, m584, m585, m509, m87, m510⟩, rfl, okd___BorrowedBeat_Reader____fail______Z__⟩
theorem lkX9_49 : LkS RX9 49 yX9_itemOf cX9_itemOf 1 (some .int) 1 := ⟨⟨m580, m581, m88, m582⟩, okd_yX9_itemOf⟩
theorem lkX9_60_8 : LkU RX9 60 RX9 "BorrowedBeat$Reader" ⟨"BorrowedBeat$TownReader", "readNumber", "(III)I"⟩ yX5_readNumber cX5_readNumber 6 (some .int) 3 := ⟨⟨m590, m591, m592, m539, m87, m540⟩, rfl, okd___BorrowedBeat_Reader____readNumber_____III_I__⟩
theorem lkX9_64 : LkV RX9 64 yX9_keep cX9_keep 5 none 3 := ⟨⟨m593, m595, m10, m88, m596⟩, okd_yX9_keep⟩
theorem lkX9_71 : LkV RX9 71 yX8_put cX8_put 4 none 3 := ⟨⟨m597, m598, m599, m89, m600⟩, okd_yX8_put⟩
theorem lkX10_26 : LkV RX10 26 yX6_copyFrom cX6_copyFrom 2 none 1 := ⟨⟨m1040, m968, m969, m92, m970⟩, okd_yX6_copyFrom⟩
theorem lkX10_32 : LkV RX10 32 yX10_foresee cX10_foresee 7 none 2 := ⟨⟨m1041, m1043, m34, m95, m1044⟩, okd_yX10_foresee⟩
theorem lkX10_43 : LkS RX10 43 yX10_slot cX10_slot 2 (some .int) 2 := ⟨⟨m1045, m1046, m95, m1047⟩, okd_yX10_slot⟩
theorem lkX10_54 : LkS RX10 54 yX10_choose cX10_choose 9 none 5 := ⟨⟨m1050, m1051, m95, m1052⟩, okd_yX10_choose⟩
theorem lkX10_68 : LkV RX10 68 yX8_drifted cX8_drifted 6 (some .int) 4 := ⟨⟨m1048, m777, m778, m89, m779⟩, okd_yX8_drifted⟩
theorem lkX10_72 : LkV RX10 72 yX10_weigh cX10_weigh 4 none 1 := ⟨⟨m1053, m1055, m35, m95, m1056⟩, okd_yX10_weigh⟩
theorem lkX10_76 : LkV RX10 76 yX4_perform cX4_perform 6 (some .int) 2 := ⟨⟨m1057, m815, m816, m93, m817⟩, okd_yX4_perform⟩
theorem lkL_7 : LkV RL 7 yX11_player cX11_player 3 (some .int) 2 := ⟨⟨m1079, m1080, m1081, m85, m1082⟩, okd_yX11_player⟩
theorem lkL_15 : LkI RL 15 yX11_init cX11_init 1 0 := ⟨⟨m108, m109, m85, m110⟩, okd_yX11_init, rfl⟩
theorem lkL_18 : LkI RL 18 yX12_init cX12_init 1 0 := ⟨⟨m1152, m1153, m96, m1154⟩, okd_yX12_init, rfl⟩
theorem lkL_19 : LkV RL 19 yX11_feed cX11_feed 7 (some .int) 5 := ⟨⟨m449, m450, m451, m85, m452⟩, okd_yX11_feed⟩
theorem lkL_23 : LkV RL 23 yX12_feed cX12_feed 9 (some .int) 5 := ⟨⟨m1307, m1308, m1309, m96, m1310⟩, okd_yX12_feed⟩
theorem lkL_24 : LkV RL 24 yX11_end cX11_end 2 (some .boolean) 1 := ⟨⟨m460, m461, m462, m85, m463⟩, okd_yX11_end⟩
theorem lkL_28 : LkV RL 28 yX12_end cX12_end 2 (some .boolean) 1 := ⟨⟨m1314, m1315, m1316, m96, m1317⟩, okd_yX12_end⟩
theorem lkL_29 : LkV RL 29 yX11_fault cX11_fault 2 (some .int) 1 := ⟨⟨m464, m465, m466, m85, m467⟩, okd_yX11_fault⟩
theorem lkL_33 : LkV RL 33 yX12_fault cX12_fault 2 (some .int) 1 := ⟨⟨m1318, m1319, m1320, m96, m1321⟩, okd_yX12_fault⟩
theorem lkL_34 : LkV RL 34 yX11_text cX11_text 2 (some .int) 1 := ⟨⟨m618, m619, m620, m85, m621⟩, okd_yX11_text⟩
theorem lkL_37 : LkV RL 37 yX12_text cX12_text 2 (some .int) 1 := ⟨⟨m1435, m1436, m1437, m96, m1438⟩, okd_yX12_text⟩
theorem lkL_43 : LkV RL 43 yX12_player cX12_player 3 (some .int) 2 := ⟨⟨m1443, m1444, m1445, m96, m1446⟩, okd_yX12_player⟩
theorem lkL_44 : LkV RL 44 yX11_set cX11_set 4 (some .boolean) 2 := ⟨⟨m689, m690, m691, m85, m692⟩, okd_yX11_set⟩
theorem lkL_48 : LkV RL 48 yX12_set cX12_set 3 (some .boolean) 2 := ⟨⟨m1455, m1456, m1457, m96, m1458⟩, okd_yX12_set⟩
theorem lkL_49 : LkV RL 49 yX11_tell cX11_tell 4 (some .boolean) 3 := ⟨⟨m698, m699, m700, m85, m701⟩, okd_yX11_tell⟩
theorem lkL_53 : LkV RL 53 yX12_tell cX12_tell 4 (some .boolean) 3 := ⟨⟨m1459, m1460, m1461, m96, m1462⟩, okd_yX12_tell⟩
theorem lkL_54 : LkV RL 54 yX11_mark cX11_mark 3 (some .boolean) 2 := ⟨⟨m710, m711, m712, m85, m713⟩, okd_yX11_mark⟩
theorem lkL_58 : LkV RL 58 yX12_mark cX12_mark 3 (some .boolean) 2 := ⟨⟨m1463, m1464, m1465, m96, m1466⟩, okd_yX12_mark⟩
theorem lkL_59 : LkV RL 59 yX11_damp cX11_damp 2 (some .int) 1 := ⟨⟨m718, m719, m720, m85, m721⟩, okd_yX11_damp⟩
theorem lkL_62 : LkV RL 62 yX12_damp cX12_damp 2 (some .int) 1 := ⟨⟨m1467, m1468, m1469, m96, m1470⟩, okd_yX12_damp⟩
theorem lkL_63 : LkV RL 63 yX11_day cX11_day 3 (some .int) 1 := ⟨⟨m762, m763, m764, m85, m765⟩, okd_yX11_day⟩
theorem lkL_66 : LkV RL 66 yX12_day cX12_day 3 (some .int) 1 := ⟨⟨m1495, m1496, m1497, m96, m1498⟩, okd_yX12_day⟩
theorem lkL_67 : LkV RL 67 yX11_undo cX11_undo 1 (some .int) 0 := ⟨⟨m781, m782, m783, m85, m784⟩, okd_yX11_undo⟩
theorem lkL_71 : LkV RL 71 yX12_undo cX12_undo 2 (some .int) 0 := ⟨⟨m1503, m1504, m1505, m96, m1506⟩, okd_yX12_undo⟩
theorem lkL_72 : LkV RL 72 yX11_time cX11_time 4 (some .int) 3 := ⟨⟨m805, m806, m807, m85, m808⟩, okd_yX11_time⟩
theorem lkL_76 : LkV RL 76 yX12_time cX12_time 4 (some .int) 3 := ⟨⟨m1507, m1508, m1509, m96, m1510⟩, okd_yX12_time⟩
theorem lkL_77 : LkV RL 77 yX11_spread cX11_spread 2 (some .int) 1 := ⟨⟨m858, m859, m860, m85, m861⟩, okd_yX11_spread⟩
theorem lkL_80 : LkV RL 80 yX12_spread cX12_spread 2 (some .int) 1 := ⟨⟨m1527, m1528, m1529, m96, m1530⟩, okd_yX12_spread⟩
theorem lkL_81 : LkV RL 81 yX11_worst cX11_worst 3 (some .int) 1 := ⟨⟨m862, m863, m864, m85, m865⟩, okd_yX11_worst⟩
theorem lkL_84 : LkV RL 84 yX12_worst cX12_worst 2 (some .int) 1 := ⟨⟨m1535, m1536, m1537, m96, m1538⟩, okd_yX12_worst⟩
theorem lkL_85 : LkV RL 85 yX11_parts cX11_parts 1 (some .int) 0 := ⟨⟨m874, m875, m876, m85, m877⟩, okd_yX11_parts⟩
theorem lkL_88 : LkV RL 88 yX12_parts cX12_parts 2 (some .int) 0 := ⟨⟨m1547, m1548, m1549, m96, m1550⟩, okd_yX12_parts⟩
theorem lkL_89 : LkV RL 89 yX11_last cX11_last 2 (some .int) 1 := ⟨⟨m878, m879, m880, m85, m881⟩, okd_yX11_last⟩
theorem lkL_92 : LkV RL 92 yX12_last cX12_last 2 (some .int) 1 := ⟨⟨m1551, m1552, m1553, m96, m1554⟩, okd_yX12_last⟩
theorem lkL_93 : LkV RL 93 yX11_settle cX11_settle 2 (some .int) 1 := ⟨⟨m883, m884, m885, m85, m886⟩, okd_yX11_settle⟩
theorem lkL_96 : LkV RL 96 yX12_settle cX12_settle 4 (some .int) 1 := ⟨⟨m1559, m1560, m1561, m96, m1562⟩, okd_yX12_settle⟩
theorem lkL_97 : LkV RL 97 yX11_ring cX11_ring 5 (some .int) 1 := ⟨⟨m951, m952, m953, m85, m954⟩, okd_yX11_ring⟩
theorem lkL_100 : LkV RL 100 yX12_ring cX12_ring 4 (some .int) 1 := ⟨⟨m1567, m1568, m1569, m96, m1570⟩, okd_yX12_ring⟩
theorem lkL_101 : LkV RL 101 yX11_head cX11_head 4 (some .int) 1 := ⟨⟨m959, m960, m961, m85, m962⟩, okd_yX11_head⟩
theorem lkL_104 : LkV RL 104 yX12_head cX12_head 4 (some .int) 1 := ⟨⟨m1571, m1572, m1573, m96, m1574⟩, okd_yX12_head⟩
theorem lkL_105 : LkV RL 105 yX11_week cX11_week 3 (some .int) 1 := ⟨⟨m1032, m1033, m1034, m85, m1035⟩, okd_yX11_week⟩
theorem lkL_108 : LkV RL 108 yX12_week cX12_week 3 (some .int) 1 := ⟨⟨m1575, m1576, m1577, m96, m1578⟩, okd_yX12_week⟩
theorem lkL_109 : LkV RL 109 yX11_leader cX11_leader 7 (some .int) 2 := ⟨⟨m963, m964, m965, m85, m966⟩, okd_yX11_leader⟩
theorem lkL_112 : LkV RL 112 yX12_leader cX12_leader 8 (some .int) 2 := ⟨⟨m1591, m1592, m1593, m96, m1594⟩, okd_yX12_leader⟩
theorem lkL_113 : LkV RL 113 yX11_marks cX11_marks 2 (some .int) 1 := ⟨⟨m1003, m1004, m1005, m85, m1006⟩, okd_yX11_marks⟩
theorem lkL_116 : LkV RL 116 yX12_marks cX12_marks 3 (some .int) 1 := ⟨⟨m1596, m1597, m1598, m96, m1599⟩, okd_yX12_marks⟩
theorem lkL_117 : LkV RL 117 yX11_odds cX11_odds 6 (some .int) 2 := ⟨⟨m1063, m1064, m1065, m85, m1066⟩, okd_yX11_odds⟩
theorem lkL_120 : LkV RL 120 yX12_odds cX12_odds 3 (some .int) 2 := ⟨⟨m1604, m1605, m1606, m96, m1607⟩, okd_yX12_odds⟩
theorem lkL_121 : LkV RL 121 yX11_paid cX11_paid 4 (some .int) 1 := ⟨⟨m995, m996, m997, m85, m998⟩, okd_yX11_paid⟩
theorem lkL_124 : LkV RL 124 yX12_paid cX12_paid 5 (some .int) 1 := ⟨⟨m1612, m1613, m1614, m96, m1615⟩, okd_yX12_paid⟩
theorem lkL_125 : LkV RL 125 yX11_roll cX11_roll 6 (some .int) 3 := ⟨⟨m975, m976, m977, m85, m978⟩, okd_yX11_roll⟩
theorem lkL_128 : LkV RL 128 yX12_roll cX12_roll 4 (some .int) 3 := ⟨⟨m1620, m1621, m1622, m96, m1623⟩, okd_yX12_roll⟩
theorem lkL_129 : LkV RL 129 yX11_fits cX11_fits 4 (some .int) 1 := ⟨⟨m979, m980, m981, m85, m982⟩, okd_yX11_fits⟩
theorem lkL_132 : LkV RL 132 yX12_fits cX12_fits 5 (some .int) 1 := ⟨⟨m1624, m1625, m1626, m96, m1627⟩, okd_yX12_fits⟩
theorem lkL_133 : LkV RL 133 yX11_deaf cX11_deaf 2 (some .int) 1 := ⟨⟨m971, m972, m973, m85, m974⟩, okd_yX11_deaf⟩
theorem lkL_136 : LkV RL 136 yX12_deaf cX12_deaf 4 (some .int) 1 := ⟨⟨m1632, m1633, m1634, m96, m1635⟩, okd_yX12_deaf⟩
theorem lkL_137 : LkV RL 137 yX11_echoes cX11_echoes 6 (some .int) 1 := ⟨⟨m987, m988, m989, m85, m990⟩, okd_yX11_echoes⟩
theorem lkL_140 : LkV RL 140 yX12_echoes cX12_echoes 7 (some .int) 1 := ⟨⟨m1636, m1637, m1638, m96, m1639⟩, okd_yX12_echoes⟩
theorem lkL_141 : LkV RL 141 yX11_gift cX11_gift 7 (some .int) 1 := ⟨⟨m1058, m1059, m1060, m85, m1061⟩, okd_yX11_gift⟩
theorem lkL_144 : LkV RL 144 yX12_gift cX12_gift 7 (some .int) 1 := ⟨⟨m1640, m1641, m1642, m96, m1643⟩, okd_yX12_gift⟩
theorem lkL_145 : LkV RL 145 yX11_tune cX11_tune 7 (some .int) 2 := ⟨⟨m991, m992, m993, m85, m994⟩, okd_yX11_tune⟩
theorem lkL_148 : LkV RL 148 yX12_tune cX12_tune 8 (some .int) 2 := ⟨⟨m1644, m1645, m1646, m96, m1647⟩, okd_yX12_tune⟩
theorem lkL_149 : LkV RL 149 yX11_place cX11_place 3 (some .int) 2 := ⟨⟨m895, m896, m897, m85, m898⟩, okd_yX11_place⟩
theorem lkL_152 : LkV RL 152 yX12_place cX12_place 7 (some .int) 2 := ⟨⟨m1649, m1650, m1651, m96, m1652⟩, okd_yX12_place⟩
theorem lkL_153 : LkV RL 153 yX11_overtakes cX11_overtakes 3 (some .int) 2 := ⟨⟨m907, m908, m909, m85, m910⟩, okd_yX11_overtakes⟩
theorem lkL_156 : LkV RL 156 yX12_overtakes cX12_overtakes 6 (some .int) 2 := ⟨⟨m1653, m1654, m1655, m96, m1656⟩, okd_yX12_overtakes⟩
theorem lkL_157 : LkV RL 157 yX11_middle cX11_middle 1 (some .int) 0 := ⟨⟨m922, m923, m924, m85, m925⟩, okd_yX11_middle⟩
theorem lkL_160 : LkV RL 160 yX12_middle cX12_middle 6 (some .int) 0 := ⟨⟨m1662, m1663, m1664, m96, m1665⟩, okd_yX12_middle⟩
theorem lkL_161 : LkV RL 161 yX11_ends cX11_ends 4 (some .int) 1 := ⟨⟨m937, m938, m939, m85, m940⟩, okd_yX11_ends⟩
theorem lkL_164 : LkV RL 164 yX12_ends cX12_ends 3 (some .int) 1 := ⟨⟨m1666, m1667, m1668, m96, m1669⟩, okd_yX12_ends⟩
theorem lkL_165 : LkV RL 165 yX11_stray cX11_stray 3 (some .int) 2 := ⟨⟨m942, m943, m944, m85, m945⟩, okd_yX11_stray⟩
theorem lkL_168 : LkV RL 168 yX12_stray cX12_stray 4 (some .int) 2 := ⟨⟨m1670, m1671, m1672, m96, m1673⟩, okd_yX12_stray⟩
theorem lkL_169 : LkV RL 169 yX11_image cX11_image 1 (some .int) 0 := ⟨⟨m789, m790, m791, m85, m792⟩, okd_yX11_image⟩
theorem lkL_172 : LkV RL 172 yX12_image cX12_image 2 (some .int) 0 := ⟨⟨m1674, m1675, m1676, m96, m1677⟩, okd_yX12_image⟩
theorem lkL_173 : LkV RL 173 yX11_back cX11_back 1 (some .int) 0 := ⟨⟨m797, m798, m799, m85, m800⟩, okd_yX11_back⟩
theorem lkL_176 : LkV RL 176 yX12_back cX12_back 2 (some .int) 0 := ⟨⟨m1678, m1679, m1680, m96, m1681⟩, okd_yX12_back⟩
theorem lkL_177 : LkV RL 177 yX11_count cX11_count 2 (some .int) 1 := ⟨⟨m1071, m1072, m1073, m85, m1074⟩, okd_yX11_count⟩
theorem lkL_180 : LkV RL 180 yX12_count cX12_count 2 (some .int) 1 := ⟨⟨m1682, m1683, m1684, m96, m1685⟩, okd_yX12_count⟩
theorem lkX12_104 : LkS RX12 104 yX12_byteOf cX12_byteOf 7 (some .int) 6 := ⟨⟨m1311, m1312, m96, m1313⟩, okd_yX12_byteOf⟩
theorem lkX12_114 : LkV RX12 114 yX12_here cX12_here 1 (some .int) 0 := ⟨⟨m1330, m1332, m39, m96, m1333⟩, okd_yX12_here⟩
theorem lkX12_127 : LkV RX12 127 yX12_bad cX12_bad 1 none 0 := ⟨⟨m1338, m1340, m41, m96, m1341⟩, okd_yX12_bad⟩
theorem lkX12_130 : LkV RX12 130 yX12_look cX12_look 1 (some .int) 0 := ⟨⟨m1326, m1328, m38, m96, m1329⟩, okd_yX12_look⟩
theorem lkX12_133 : LkS RX12 133 yX12_isDigit cX12_isDigit 1 (some .boolean) 1 := ⟨⟨m1355, m1356, m96, m1357⟩, okd_yX12_isDigit⟩
theorem lkX12_137 : LkV RX12 137 yX12_plainNumber cX12_plainNumber 3 (some .int) 0 := ⟨⟨m1409, m1411, m55, m96, m1412⟩, okd_yX12_plainNumber⟩
theorem lkX12_140 : LkV RX12 140 yX12_put cX12_put 3 none 2 := ⟨⟨m1389, m1391, m50, m96, m1392⟩, okd_yX12_put⟩
theorem lkX12_144 : LkS RX12 144 yX12_letterOf cX12_letterOf 1 (some .int) 1 := ⟨⟨m1413, m1414, m96, m1415⟩, okd_yX12_letterOf⟩
theorem lkX12_148 : LkV RX12 148 yX12_opens cX12_opens 1 none 0 := ⟨⟨m1385, m1387, m49, m96, m1388⟩, okd_yX12_opens⟩
theorem lkX12_151 : LkV RX12 151 yX12_sum cX12_sum 2 none 0 := ⟨⟨m1397, m1399, m52, m96, m1400⟩, okd_yX12_sum⟩
theorem lkX12_154 : LkV RX12 154 yX12_closes cX12_closes 2 none 1 := ⟨⟨m1393, m1395, m51, m96, m1396⟩, okd_yX12_closes⟩
theorem lkX12_158 : LkV RX12 158 yX12_atom cX12_atom 2 none 0 := ⟨⟨m1405, m1407, m54, m96, m1408⟩, okd_yX12_atom⟩
theorem lkX12_161 : LkV RX12 161 yX12_term cX12_term 2 none 0 := ⟨⟨m1401, m1403, m53, m96, m1404⟩, okd_yX12_term⟩
theorem lkX12_164 : LkS RX12 164 yX12_isSign cX12_isSign 1 (some .boolean) 1 := ⟨⟨m1420, m1421, m96, m1422⟩, okd_yX12_isSign⟩
theorem lkX12_167 : LkV RX12 167 yX12_unit cX12_unit 2 none 0 := ⟨⟨m1381, m1383, m48, m96, m1384⟩, okd_yX12_unit⟩
theorem lkX12_170 : LkV RX12 170 yX12_condition cX12_condition 1 none 0 := ⟨⟨m1377, m1379, m47, m96, m1380⟩, okd_yX12_condition⟩
theorem lkX12_173 : LkV RX12 173 yX12_compare cX12_compare 2 none 0 := ⟨⟨m1416, m1418, m56, m96, m1419⟩, okd_yX12_compare⟩
theorem lkX12_176 : LkV RX12 176 yX12_goOnAnd cX12_goOnAnd 1 none 0 := ⟨⟨m1423, m1425, m57, m96, m1426⟩, okd_yX12_goOnAnd⟩
theorem lkX12_179 : LkV RX12 179 yX12_goOnOr cX12_goOnOr 1 none 0 := ⟨⟨m1427, m1429, m58, m96, m1430⟩, okd_yX12_goOnOr⟩
theorem lkX12_182 : LkV RX12 182 yX12_open cX12_open 2 none 1 := ⟨⟨m1369, m1371, m45, m96, m1372⟩, okd_yX12_open⟩
theorem lkX12_185 : LkV RX12 185 yX12_clause cX12_clause 3 none 0 := ⟨⟨m1373, m1375, m46, m96, m1376⟩, okd_yX12_clause⟩
theorem lkX12_188 : LkV RX12 188 yX12_atEnd cX12_atEnd 1 (some .int) 0 := ⟨⟨m1431, m1433, m59, m96, m1434⟩, okd_yX12_atEnd⟩
theorem lkX12_195 : LkS RX12 195 yJ9_min_f86c9 cJ9_min_f86c9 4 (some .long) 2 := ⟨⟨m1491, m757, m100, m758⟩, okd_yJ9_min_f86c9⟩
theorem lkX12_201 : LkS RX12 201 yJ9_max_f86c9 cJ9_max_f86c9 4 (some .long) 2 := ⟨⟨m1492, m760, m100, m761⟩, okd_yJ9_max_f86c9⟩
theorem lkX12_204 : LkS RX12 204 yX12_bounded cX12_bounded 2 (some .int) 1 := ⟨⟨m1486, m1487, m96, m1488⟩, okd_yX12_bounded⟩
theorem lkX12_208 : LkS RX12 208 yX12_worked cX12_worked 5 (some .int) 3 := ⟨⟨m1483, m1484, m96, m1485⟩, okd_yX12_worked⟩
theorem lkX12_212 : LkV RX12 212 yX12_workOut cX12_workOut 6 (some .int) 3 := ⟨⟨m1479, m1481, m65, m96, m1482⟩, okd_yX12_workOut⟩
theorem lkX12_216 : LkS RX12 216 yX12_in cX12_in 3 (some .boolean) 3 := ⟨⟨m1358, m1359, m96, m1360⟩, okd_yX12_in⟩
theorem lkX12_223 : LkS RX12 223 yX12_itemOf cX12_itemOf 1 (some .int) 1 := ⟨⟨m1342, m1343, m96, m1344⟩, okd_yX12_itemOf⟩
theorem lkX12_226 : LkS RX12 226 yX12_has cX12_has 2 (some .boolean) 2 := ⟨⟨m1345, m1346, m96, m1347⟩, okd_yX12_has⟩
theorem lkX12_230 : LkS RX12 230 yX12_highest cX12_highest 1 (some .int) 1 := ⟨⟨m1348, m1349, m96, m1350⟩, okd_yX12_highest⟩
theorem lkX12_233 : LkV RX12 233 yX12_number cX12_number 4 (some .int) 2 := ⟨⟨m1351, m1353, m42, m96, m1354⟩, okd_yX12_number⟩
theorem lkX12_240 : LkV RX12 240 yX12_playerText cX12_playerText 4 none 0 := ⟨⟨m1334, m1336, m40, m96, m1337⟩, okd_yX12_playerText⟩
theorem lkX12_243 : LkV RX12 243 yX12_areTold cX12_areTold 3 (some .boolean) 0 := ⟨⟨m1361, m1363, m43, m96, m1364⟩, okd_yX12_areTold⟩
theorem lkX12_247 : LkV RX12 247 yX12_readTown cX12_readTown 4 (some .int) 0 := ⟨⟨m1322, m1324, m37, m96, m1325⟩, okd_yX12_readTown⟩
theorem lkX12_250 : LkV RX12 250 yX12_readLaw cX12_readLaw 2 (some .int) 1 := ⟨⟨m1365, m1367, m44, m96, m1368⟩, okd_yX12_readLaw⟩
theorem lkX12_275 : LkV RX12 275 yX12_takeTown cX12_takeTown 2 (some .int) 0 := ⟨⟨m1439, m1441, m60, m96, m1442⟩, okd_yX12_takeTown⟩
theorem lkX12_281 : LkV RX12 281 yX12_isPlayer cX12_isPlayer 2 (some .boolean) 1 := ⟨⟨m1447, m1449, m61, m96, m1450⟩, okd_yX12_isPlayer⟩
theorem lkX12_284 : LkV RX12 284 yX12_of cX12_of 3 (some .int) 2 := ⟨⟨m1451, m1453, m62, m96, m1454⟩, okd_yX12_of⟩
theorem lkX12_290 : LkV RX12 290 yX12_worthOf cX12_worthOf 3 (some .int) 1 := ⟨⟨m1475, m1477, m64, m96, m1478⟩, okd_yX12_worthOf⟩
theorem lkX12_293 : LkS RX12 293 yJ9_min_7cf53 cJ9_min_7cf53 2 (some .int) 2 := ⟨⟨m1493, m666, m100, m667⟩, okd_yJ9_min_7cf53⟩
theorem lkX12_295 : LkS RX12 295 yJ9_max_7cf53 cJ9_max_7cf53 2 (some .int) 2 := ⟨⟨m1494, m827, m100, m828⟩, okd_yJ9_max_7cf53⟩
theorem lkX12_297 : LkV RX12 297 yX12_dampOf cX12_dampOf 4 (some .int) 1 := ⟨⟨m1471, m1473, m63, m96, m1474⟩, okd_yX12_dampOf⟩
theorem lkX12_300 : LkV RX12 300 yX12_pass cX12_pass 7 none 2 := ⟨⟨m1499, m1501, m66, m96, m1502⟩, okd_yX12_pass⟩
theorem lkX12_303 : LkV RX12 303 yX12_beatBehind cX12_beatBehind 6 (some .int) 2 := ⟨⟨m1523, m1525, m70, m96, m1526⟩, okd_yX12_beatBehind⟩
theorem lkX12_306 : LkV RX12 306 yX12_layBeats cX12_layBeats 4 none 1 := ⟨⟨m1519, m1521, m69, m96, m1522⟩, okd_yX12_layBeats⟩
theorem lkX12_309 : LkV RX12 309 yX12_isBar cX12_isBar 2 (some .boolean) 1 := ⟨⟨m1511, m1513, m67, m96, m1514⟩, okd_yX12_isBar⟩
theorem lkX12_312 : LkV RX12 312 yX12_play cX12_play 5 none 0 := ⟨⟨m1515, m1517, m68, m96, m1518⟩, okd_yX12_play⟩
theorem lkX12_315 : LkV RX12 315 yX12_spreadAt cX12_spreadAt 5 (some .int) 1 := ⟨⟨m1531, m1533, m71, m96, m1534⟩, okd_yX12_spreadAt⟩
theorem lkX12_318 : LkV RX12 318 yX12_worstBar cX12_worstBar 3 (some .int) 0 := ⟨⟨m1543, m1545, m73, m96, m1546⟩, okd_yX12_worstBar⟩
theorem lkX12_321 : LkV RX12 321 yX12_worstNow cX12_worstNow 1 (some .int) 0 := ⟨⟨m1539, m1541, m72, m96, m1542⟩, okd_yX12_worstNow⟩
theorem lkX12_324 : LkV RX12 324 yX12_lastAt cX12_lastAt 4 (some .int) 1 := ⟨⟨m1555, m1557, m74, m96, m1558⟩, okd_yX12_lastAt⟩
theorem lkX12_327 : LkV RX12 327 yX12_areLike cX12_areLike 5 (some .boolean) 2 := ⟨⟨m1563, m1565, m75, m96, m1566⟩, okd_yX12_areLike⟩
theorem lkX12_336 : LkV RX12 336 yX12_keepBeats cX12_keepBeats 3 none 1 := ⟨⟨m1583, m1585, m77, m96, m1586⟩, okd_yX12_keepBeats⟩
theorem lkX12_339 : LkV RX12 339 yX12_weekFrom cX12_weekFrom 4 none 2 := ⟨⟨m1579, m1581, m76, m96, m1582⟩, okd_yX12_weekFrom⟩
theorem lkX12_342 : LkV RX12 342 yX12_takeBeats cX12_takeBeats 3 none 1 := ⟨⟨m1587, m1589, m78, m96, m1590⟩, okd_yX12_takeBeats⟩
theorem lkX12_346 : LkV RX12 346 yX12_marksFrom cX12_marksFrom 7 none 1 := ⟨⟨m1600, m1602, m79, m96, m1603⟩, okd_yX12_marksFrom⟩
theorem lkX12_349 : LkV RX12 349 yX12_oddsFrom cX12_oddsFrom 6 (some .int) 3 := ⟨⟨m1608, m1610, m80, m96, m1611⟩, okd_yX12_oddsFrom⟩
theorem lkX12_352 : LkV RX12 352 yX12_isAloneLast cX12_isAloneLast 4 (some .boolean) 1 := ⟨⟨m1616, m1618, m81, m96, m1619⟩, okd_yX12_isAloneLast⟩
theorem lkX12_355 : LkV RX12 355 yX12_agrees cX12_agrees 2 (some .boolean) 0 := ⟨⟨m1628, m1630, m82, m96, m1631⟩, okd_yX12_agrees⟩
theorem lkX12_358 : LkS RX12 358 yJ9_abs_0f7a4 cJ9_abs_0f7a4 1 (some .int) 1 := ⟨⟨m1648, m935, m100, m936⟩, okd_yJ9_abs_0f7a4⟩
theorem lkX12_361 : LkS RX12 361 yJ6_compare_7cf53 cJ6_compare_7cf53 2 (some .int) 2 := ⟨⟨m1661, m920, m105, m921⟩, okd_yJ6_compare_7cf53⟩
theorem lkX12_365 : LkV RX12 365 yX12_aheadAt cX12_aheadAt 4 (some .int) 3 := ⟨⟨m1657, m1659, m83, m96, m1660⟩, okd_yX12_aheadAt⟩
theorem lkJ7_304 : LkS RJ7 304 yJ9_min_7cf53 cJ9_min_7cf53 2 (some .int) 2 := ⟨⟨m665, m666, m100, m667⟩, okd_yJ9_min_7cf53⟩
end pt_07links
