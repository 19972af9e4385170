set_option maxRecDepth 100000 in
theorem mn224 : Cond.arrayOver (ClassFile.FieldType.object "BorrowedBeat$Law") ∈ nw := mnw mT1 140 rfl rfl
set_option maxRecDepth 100000 in
theorem mn663 : Cond.castable "[I" "java/lang/Cloneable" ∈ nw := mnw mT3 99 rfl rfl
set_option maxRecDepth 100000 in
theorem m664 : Cond.classLink "java/util/Arrays" 317 "[I" ∈ uw := muw mT3 100 rfl rfl
set_option maxRecDepth 100000 in
theorem m754 : Cond.constantLong "BorrowedBeat$Law" 61 (-1000000) ∈ uw := muw mT3 190 rfl rfl
set_option maxRecDepth 100000 in
theorem m755 : Cond.constantLong "BorrowedBeat$Law" 63 1000000 ∈ uw := muw mT3 191 rfl rfl
set_option maxRecDepth 100000 in
theorem m1078 : Cond.classLink "BorrowedBeatLaw" 13 "java/util/NoSuchElementException" ∈ uw := muw mT5 34 rfl rfl
set_option maxRecDepth 100000 in
theorem m1489 : Cond.constantLong "BorrowedBeatModel" 191 (-1000000) ∈ uw := muw mT6 209 rfl rfl
set_option maxRecDepth 100000 in
theorem m1490 : Cond.constantLong "BorrowedBeatModel" 193 1000000 ∈ uw := muw mT6 210 rfl rfl
set_option maxRecDepth 100000 in
theorem m1595 : Cond.constant "BorrowedBeatModel" 345 (-1000000) ∈ uw := muw mT7 75 rfl rfl
