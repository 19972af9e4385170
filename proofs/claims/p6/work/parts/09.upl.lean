theorem lkX2_77 : LkSU RX2 77 "BorrowedBeat$Reader" ⟨"BorrowedBeat$LawReader", "isDigit", "(I)Z"⟩ yX5_isDigit cX5_isDigit 1 (some .boolean) 1 := ⟨⟨m531, m532, m533, m87, m534⟩, rfl, okd_yX5_isDigit⟩
