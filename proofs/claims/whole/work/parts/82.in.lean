/-! the words of the classes and of the exceptions; the whole list -/
set_option maxRecDepth 100000 in
theorem sw_bT : ∀ w ∈ Bundle.throwableAtoms, goodWord w = true → vx_no w = true → w ∈ lw_tbl := List.forall_mem_cons.mpr ⟨(fun _ _ => (sw_t1 _ (List.mem_of_getElem? (i := 9) rfl))), List.forall_mem_cons.mpr ⟨(fun _ _ => (sw_t2 _ (List.mem_of_getElem? (i := 86) rfl))), List.forall_mem_cons.mpr ⟨(fun _ _ => (sw_t2 _ (List.mem_of_getElem? (i := 95) rfl))), List.forall_mem_cons.mpr ⟨(fun _ _ => (sw_t2 _ (List.mem_of_getElem? (i := 103) rfl))), List.forall_mem_cons.mpr ⟨(fun _ _ => (sw_t2 _ (List.mem_of_getElem? (i := 106) rfl))), List.forall_mem_cons.mpr ⟨(fun _ _ => (sw_t2 _ (List.mem_of_getElem? (i := 108) rfl))), List.forall_mem_cons.mpr ⟨(fun _ _ => (sw_t2 _ (List.mem_of_getElem? (i := 87) rfl))), List.forall_mem_cons.mpr ⟨(fun _ _ => (sw_t2 _ (List.mem_of_getElem? (i := 88) rfl))), List.forall_mem_cons.mpr ⟨(fun _ _ => (sw_t1 _ (List.mem_of_getElem? (i := 27) rfl))), List.forall_mem_cons.mpr ⟨(fun _ _ => (sw_t1 _ (List.mem_of_getElem? (i := 28) rfl))), List.forall_mem_cons.mpr ⟨(fun _ _ => (sw_t2 _ (List.mem_of_getElem? (i := 89) rfl))), List.forall_mem_cons.mpr ⟨(fun _ _ => (sw_t2 _ (List.mem_of_getElem? (i := 94) rfl))), List.forall_mem_cons.mpr ⟨(fun _ _ => (sw_t2 _ (List.mem_of_getElem? (i := 104) rfl))), List.forall_mem_cons.mpr ⟨(fun _ _ => (sw_t2 _ (List.mem_of_getElem? (i := 124) rfl))), List.forall_mem_cons.mpr ⟨(fun _ _ => (sw_t2 _ (List.mem_of_getElem? (i := 76) rfl))), List.forall_mem_cons.mpr ⟨(fun _ _ => (sw_t2 _ (List.mem_of_getElem? (i := 125) rfl))), List.forall_mem_cons.mpr ⟨(fun _ _ => (sw_t2 _ (List.mem_of_getElem? (i := 78) rfl))), List.forall_mem_cons.mpr ⟨(fun _ _ => (sw_t2 _ (List.mem_of_getElem? (i := 126) rfl))), List.forall_mem_cons.mpr ⟨(fun _ _ => (sw_t2 _ (List.mem_of_getElem? (i := 80) rfl))), List.forall_mem_cons.mpr ⟨(fun _ _ => (sw_t2 _ (List.mem_of_getElem? (i := 90) rfl))), List.forall_mem_cons.mpr ⟨(fun _ h => absurd h (by decide +kernel)), List.forall_mem_cons.mpr ⟨(fun _ _ => (sw_t2 _ (List.mem_of_getElem? (i := 92) rfl))), List.forall_mem_cons.mpr ⟨(fun _ h => absurd h (by decide +kernel)), List.forall_mem_cons.mpr ⟨(fun _ _ => (sw_t2 _ (List.mem_of_getElem? (i := 82) rfl))), fun _ h => absurd h List.not_mem_nil⟩⟩⟩⟩⟩⟩⟩⟩⟩⟩⟩⟩⟩⟩⟩⟩⟩⟩⟩⟩⟩⟩⟩⟩
set_option maxRecDepth 100000 in
theorem sw_bS : ∀ w ∈ Bundle.throwableSAtoms, goodWord w = true → vx_no w = true → w ∈ lw_tbl := List.forall_mem_cons.mpr ⟨(fun _ _ => (sw_t2 _ (List.mem_of_getElem? (i := 120) rfl))), List.forall_mem_cons.mpr ⟨(fun _ _ => (sw_t2 _ (List.mem_of_getElem? (i := 121) rfl))), List.forall_mem_cons.mpr ⟨(fun _ _ => (sw_t2 _ (List.mem_of_getElem? (i := 123) rfl))), List.forall_mem_cons.mpr ⟨(fun _ _ => (sw_t2 _ (List.mem_of_getElem? (i := 82) rfl))), fun _ h => absurd h List.not_mem_nil⟩⟩⟩⟩
set_option maxRecDepth 100000 in
theorem sw_bN : ∀ w ∈ Bundle.stringAtoms, goodWord w = true → vx_no w = true → w ∈ lw_tbl := List.forall_mem_cons.mpr ⟨(fun _ _ => (sw_t1 _ (List.mem_of_getElem? (i := 19) rfl))), List.forall_mem_cons.mpr ⟨(fun _ _ => (sw_t3 _ (List.mem_of_getElem? (i := 238) rfl))), List.forall_mem_cons.mpr ⟨(fun _ _ => (sw_t2 _ (List.mem_of_getElem? (i := 135) rfl))), List.forall_mem_cons.mpr ⟨(fun _ _ => (sw_t3 _ (List.mem_of_getElem? (i := 239) rfl))), List.forall_mem_cons.mpr ⟨(fun _ _ => (sw_t4 _ (List.mem_of_getElem? (i := 1) rfl))), List.forall_mem_cons.mpr ⟨(fun _ _ => (sw_t4 _ (List.mem_of_getElem? (i := 0) rfl))), List.forall_mem_cons.mpr ⟨(fun _ _ => (sw_t4 _ (List.mem_of_getElem? (i := 2) rfl))), fun _ h => absurd h List.not_mem_nil⟩⟩⟩⟩⟩⟩⟩
set_option maxRecDepth 100000 in
theorem sw_bp0 : ∀ w ∈ Bundle.passSAtoms "java/lang/ArrayIndexOutOfBoundsException" "java/lang/IndexOutOfBoundsException" 7 Bundle.six, goodWord w = true → vx_no w = true → w ∈ lw_tbl := List.forall_mem_cons.mpr ⟨(fun _ _ => (sw_t3 _ (List.mem_of_getElem? (i := 221) rfl))), List.forall_mem_cons.mpr ⟨(fun _ _ => (sw_t3 _ (List.mem_of_getElem? (i := 222) rfl))), List.forall_mem_cons.mpr ⟨(fun _ _ => (sw_t3 _ (List.mem_of_getElem? (i := 223) rfl))), List.forall_mem_cons.mpr ⟨(fun _ _ => (sw_t3 _ (List.mem_of_getElem? (i := 224) rfl))), List.forall_mem_cons.mpr ⟨(fun h _ => absurd h (by decide +kernel)), fun _ h => absurd h List.not_mem_nil⟩⟩⟩⟩⟩
set_option maxRecDepth 100000 in
theorem sw_bp1 : ∀ w ∈ Bundle.passSAtoms "java/lang/IndexOutOfBoundsException" "java/lang/RuntimeException" 7 Bundle.six, goodWord w = true → vx_no w = true → w ∈ lw_tbl := List.forall_mem_cons.mpr ⟨(fun _ _ => (sw_t3 _ (List.mem_of_getElem? (i := 224) rfl))), List.forall_mem_cons.mpr ⟨(fun _ _ => (sw_t3 _ (List.mem_of_getElem? (i := 225) rfl))), List.forall_mem_cons.mpr ⟨(fun _ _ => (sw_t3 _ (List.mem_of_getElem? (i := 226) rfl))), List.forall_mem_cons.mpr ⟨(fun _ _ => (sw_t2 _ (List.mem_of_getElem? (i := 114) rfl))), List.forall_mem_cons.mpr ⟨(fun h _ => absurd h (by decide +kernel)), fun _ h => absurd h List.not_mem_nil⟩⟩⟩⟩⟩
set_option maxRecDepth 100000 in
theorem sw_bp2 : ∀ w ∈ Bundle.passSAtoms "java/lang/RuntimeException" "java/lang/Exception" 7 Bundle.six, goodWord w = true → vx_no w = true → w ∈ lw_tbl := List.forall_mem_cons.mpr ⟨(fun _ _ => (sw_t2 _ (List.mem_of_getElem? (i := 114) rfl))), List.forall_mem_cons.mpr ⟨(fun _ _ => (sw_t2 _ (List.mem_of_getElem? (i := 115) rfl))), List.forall_mem_cons.mpr ⟨(fun _ _ => (sw_t2 _ (List.mem_of_getElem? (i := 116) rfl))), List.forall_mem_cons.mpr ⟨(fun _ _ => (sw_t2 _ (List.mem_of_getElem? (i := 117) rfl))), List.forall_mem_cons.mpr ⟨(fun h _ => absurd h (by decide +kernel)), fun _ h => absurd h List.not_mem_nil⟩⟩⟩⟩⟩
set_option maxRecDepth 100000 in
theorem sw_bp3 : ∀ w ∈ Bundle.passSAtoms "java/lang/Exception" "java/lang/Throwable" 7 Bundle.six, goodWord w = true → vx_no w = true → w ∈ lw_tbl := List.forall_mem_cons.mpr ⟨(fun _ _ => (sw_t2 _ (List.mem_of_getElem? (i := 117) rfl))), List.forall_mem_cons.mpr ⟨(fun _ _ => (sw_t2 _ (List.mem_of_getElem? (i := 118) rfl))), List.forall_mem_cons.mpr ⟨(fun _ _ => (sw_t2 _ (List.mem_of_getElem? (i := 119) rfl))), List.forall_mem_cons.mpr ⟨(fun _ _ => (sw_t2 _ (List.mem_of_getElem? (i := 120) rfl))), List.forall_mem_cons.mpr ⟨(fun h _ => absurd h (by decide +kernel)), fun _ h => absurd h List.not_mem_nil⟩⟩⟩⟩⟩
set_option maxRecDepth 100000 in
theorem sw_bx00 : ∀ w ∈ Bundle.messageArmAtoms "java/lang/ArrayIndexOutOfBoundsException" ["java/lang/IndexOutOfBoundsException", "java/lang/RuntimeException", "java/lang/Exception"], goodWord w = true → vx_no w = true → w ∈ lw_tbl := List.forall_mem_append.mpr ⟨List.forall_mem_append.mpr ⟨List.forall_mem_append.mpr ⟨List.forall_mem_append.mpr ⟨sw_bT, sw_bS⟩, List.forall_mem_append.mpr ⟨sw_bp0, List.forall_mem_append.mpr ⟨sw_bp1, List.forall_mem_append.mpr ⟨sw_bp2, sw_bp3⟩⟩⟩⟩, sw_bN⟩, List.forall_mem_cons.mpr ⟨(fun _ _ => (sw_t1 _ (List.mem_of_getElem? (i := 18) rfl))), List.forall_mem_cons.mpr ⟨(fun _ _ => (sw_t3 _ (List.mem_of_getElem? (i := 220) rfl))), List.forall_mem_cons.mpr ⟨(fun h _ => absurd h (by decide +kernel)), List.forall_mem_cons.mpr ⟨(fun _ _ => (sw_t3 _ (List.mem_of_getElem? (i := 237) rfl))), List.forall_mem_cons.mpr ⟨(fun _ _ => (sw_t2 _ (List.mem_of_getElem? (i := 98) rfl))), List.forall_mem_cons.mpr ⟨(fun _ _ => (sw_t3 _ (List.mem_of_getElem? (i := 229) rfl))), List.forall_mem_cons.mpr ⟨(fun _ _ => (sw_t3 _ (List.mem_of_getElem? (i := 230) rfl))), List.forall_mem_cons.mpr ⟨(fun _ _ => (sw_t3 _ (List.mem_of_getElem? (i := 232) rfl))), List.forall_mem_cons.mpr ⟨(fun _ _ => (sw_t3 _ (List.mem_of_getElem? (i := 228) rfl))), List.forall_mem_cons.mpr ⟨(fun h _ => absurd h (by decide +kernel)), List.forall_mem_cons.mpr ⟨(fun h _ => absurd h (by decide +kernel)), List.forall_mem_cons.mpr ⟨(fun _ _ => (sw_t2 _ (List.mem_of_getElem? (i := 85) rfl))), List.forall_mem_cons.mpr ⟨(fun _ _ => (sw_t2 _ (List.mem_of_getElem? (i := 84) rfl))), List.forall_mem_cons.mpr ⟨(fun _ _ => (sw_t3 _ (List.mem_of_getElem? (i := 227) rfl))), fun _ h => absurd h List.not_mem_nil⟩⟩⟩⟩⟩⟩⟩⟩⟩⟩⟩⟩⟩⟩⟩
theorem sw_bx0 : ∀ w ∈ (vx_atM "java/lang/ArrayIndexOutOfBoundsException" ["java/lang/IndexOutOfBoundsException", "java/lang/RuntimeException", "java/lang/Exception"]).filter goodWord, w ∈ lw_tbl := fun w h => sw_bx00 w (List.mem_filter.mp (List.mem_filter.mp h).1).1 (List.mem_filter.mp h).2 (List.mem_filter.mp (List.mem_filter.mp h).1).2
set_option maxRecDepth 100000 in
theorem sw_bp4 : ∀ w ∈ Bundle.passSAtoms "java/lang/IllegalArgumentException" "java/lang/RuntimeException" 7 Bundle.six, goodWord w = true → vx_no w = true → w ∈ lw_tbl := List.forall_mem_cons.mpr ⟨(fun _ _ => (sw_t2 _ (List.mem_of_getElem? (i := 111) rfl))), List.forall_mem_cons.mpr ⟨(fun _ _ => (sw_t2 _ (List.mem_of_getElem? (i := 112) rfl))), List.forall_mem_cons.mpr ⟨(fun _ _ => (sw_t2 _ (List.mem_of_getElem? (i := 113) rfl))), List.forall_mem_cons.mpr ⟨(fun _ _ => (sw_t2 _ (List.mem_of_getElem? (i := 114) rfl))), List.forall_mem_cons.mpr ⟨(fun h _ => absurd h (by decide +kernel)), fun _ h => absurd h List.not_mem_nil⟩⟩⟩⟩⟩
set_option maxRecDepth 100000 in
theorem sw_bx10 : ∀ w ∈ Bundle.ownAtoms RX6 79 "java/lang/IllegalArgumentException" ["java/lang/RuntimeException", "java/lang/Exception"], goodWord w = true → vx_no w = true → w ∈ lw_tbl := List.forall_mem_append.mpr ⟨List.forall_mem_append.mpr ⟨List.forall_mem_append.mpr ⟨sw_bT, sw_bS⟩, List.forall_mem_append.mpr ⟨sw_bp4, List.forall_mem_append.mpr ⟨sw_bp2, sw_bp3⟩⟩⟩, List.forall_mem_cons.mpr ⟨(fun _ _ => (sw_t2 _ (List.mem_of_getElem? (i := 110) rfl))), List.forall_mem_cons.mpr ⟨(fun _ _ => (sw_t2 _ (List.mem_of_getElem? (i := 65) rfl))), List.forall_mem_cons.mpr ⟨(fun h _ => absurd h (by decide +kernel)), List.forall_mem_cons.mpr ⟨(fun _ _ => (sw_t2 _ (List.mem_of_getElem? (i := 73) rfl))), List.forall_mem_cons.mpr ⟨(fun _ _ => (sw_t2 _ (List.mem_of_getElem? (i := 74) rfl))), List.forall_mem_cons.mpr ⟨(fun _ _ => (sw_t2 _ (List.mem_of_getElem? (i := 75) rfl))), List.forall_mem_cons.mpr ⟨(fun _ _ => (sw_t2 _ (List.mem_of_getElem? (i := 77) rfl))), List.forall_mem_cons.mpr ⟨(fun _ _ => (sw_t2 _ (List.mem_of_getElem? (i := 79) rfl))), List.forall_mem_cons.mpr ⟨(fun _ _ => (sw_t2 _ (List.mem_of_getElem? (i := 81) rfl))), List.forall_mem_cons.mpr ⟨(fun h _ => absurd h (by decide +kernel)), List.forall_mem_cons.mpr ⟨(fun h _ => absurd h (by decide +kernel)), List.forall_mem_cons.mpr ⟨(fun _ _ => (sw_t2 _ (List.mem_of_getElem? (i := 85) rfl))), List.forall_mem_cons.mpr ⟨(fun _ _ => (sw_t2 _ (List.mem_of_getElem? (i := 84) rfl))), List.forall_mem_cons.mpr ⟨(fun _ _ => (sw_t2 _ (List.mem_of_getElem? (i := 83) rfl))), fun _ h => absurd h List.not_mem_nil⟩⟩⟩⟩⟩⟩⟩⟩⟩⟩⟩⟩⟩⟩⟩
theorem sw_bx1 : ∀ w ∈ (vx_atS RX6 79 "java/lang/IllegalArgumentException" ["java/lang/RuntimeException", "java/lang/Exception"]).filter goodWord, w ∈ lw_tbl := fun w h => sw_bx10 w (List.mem_filter.mp (List.mem_filter.mp h).1).1 (List.mem_filter.mp h).2 (List.mem_filter.mp (List.mem_filter.mp h).1).2
set_option maxRecDepth 100000 in
theorem sw_bp5 : ∀ w ∈ Bundle.passSAtoms "java/lang/IllegalStateException" "java/lang/RuntimeException" 7 Bundle.six, goodWord w = true → vx_no w = true → w ∈ lw_tbl := List.forall_mem_cons.mpr ⟨(fun _ _ => (sw_t2 _ (List.mem_of_getElem? (i := 151) rfl))), List.forall_mem_cons.mpr ⟨(fun _ _ => (sw_t2 _ (List.mem_of_getElem? (i := 152) rfl))), List.forall_mem_cons.mpr ⟨(fun _ _ => (sw_t2 _ (List.mem_of_getElem? (i := 153) rfl))), List.forall_mem_cons.mpr ⟨(fun _ _ => (sw_t2 _ (List.mem_of_getElem? (i := 114) rfl))), List.forall_mem_cons.mpr ⟨(fun h _ => absurd h (by decide +kernel)), fun _ h => absurd h List.not_mem_nil⟩⟩⟩⟩⟩
set_option maxRecDepth 100000 in
theorem sw_bx20 : ∀ w ∈ Bundle.ownAtoms RX6 90 "java/lang/IllegalStateException" ["java/lang/RuntimeException", "java/lang/Exception"], goodWord w = true → vx_no w = true → w ∈ lw_tbl := List.forall_mem_append.mpr ⟨List.forall_mem_append.mpr ⟨List.forall_mem_append.mpr ⟨sw_bT, sw_bS⟩, List.forall_mem_append.mpr ⟨sw_bp5, List.forall_mem_append.mpr ⟨sw_bp2, sw_bp3⟩⟩⟩, List.forall_mem_cons.mpr ⟨(fun _ _ => (sw_t2 _ (List.mem_of_getElem? (i := 150) rfl))), List.forall_mem_cons.mpr ⟨(fun _ _ => (sw_t2 _ (List.mem_of_getElem? (i := 141) rfl))), List.forall_mem_cons.mpr ⟨(fun h _ => absurd h (by decide +kernel)), List.forall_mem_cons.mpr ⟨(fun _ _ => (sw_t2 _ (List.mem_of_getElem? (i := 143) rfl))), List.forall_mem_cons.mpr ⟨(fun _ _ => (sw_t2 _ (List.mem_of_getElem? (i := 99) rfl))), List.forall_mem_cons.mpr ⟨(fun _ _ => (sw_t2 _ (List.mem_of_getElem? (i := 144) rfl))), List.forall_mem_cons.mpr ⟨(fun _ _ => (sw_t2 _ (List.mem_of_getElem? (i := 145) rfl))), List.forall_mem_cons.mpr ⟨(fun _ _ => (sw_t2 _ (List.mem_of_getElem? (i := 146) rfl))), List.forall_mem_cons.mpr ⟨(fun _ _ => (sw_t2 _ (List.mem_of_getElem? (i := 147) rfl))), List.forall_mem_cons.mpr ⟨(fun h _ => absurd h (by decide +kernel)), List.forall_mem_cons.mpr ⟨(fun h _ => absurd h (by decide +kernel)), List.forall_mem_cons.mpr ⟨(fun _ _ => (sw_t2 _ (List.mem_of_getElem? (i := 85) rfl))), List.forall_mem_cons.mpr ⟨(fun _ _ => (sw_t2 _ (List.mem_of_getElem? (i := 84) rfl))), List.forall_mem_cons.mpr ⟨(fun _ _ => (sw_t2 _ (List.mem_of_getElem? (i := 148) rfl))), fun _ h => absurd h List.not_mem_nil⟩⟩⟩⟩⟩⟩⟩⟩⟩⟩⟩⟩⟩⟩⟩
theorem sw_bx2 : ∀ w ∈ (vx_atS RX6 90 "java/lang/IllegalStateException" ["java/lang/RuntimeException", "java/lang/Exception"]).filter goodWord, w ∈ lw_tbl := fun w h => sw_bx20 w (List.mem_filter.mp (List.mem_filter.mp h).1).1 (List.mem_filter.mp h).2 (List.mem_filter.mp (List.mem_filter.mp h).1).2
set_option maxRecDepth 100000 in
theorem sw_bp6 : ∀ w ∈ Bundle.passSAtoms "java/lang/UnsupportedOperationException" "java/lang/RuntimeException" 7 Bundle.six, goodWord w = true → vx_no w = true → w ∈ lw_tbl := List.forall_mem_cons.mpr ⟨(fun _ _ => (sw_t2 _ (List.mem_of_getElem? (i := 192) rfl))), List.forall_mem_cons.mpr ⟨(fun _ _ => (sw_t2 _ (List.mem_of_getElem? (i := 193) rfl))), List.forall_mem_cons.mpr ⟨(fun _ _ => (sw_t2 _ (List.mem_of_getElem? (i := 194) rfl))), List.forall_mem_cons.mpr ⟨(fun _ _ => (sw_t2 _ (List.mem_of_getElem? (i := 114) rfl))), List.forall_mem_cons.mpr ⟨(fun h _ => absurd h (by decide +kernel)), fun _ h => absurd h List.not_mem_nil⟩⟩⟩⟩⟩
set_option maxRecDepth 100000 in
theorem sw_bx30 : ∀ w ∈ Bundle.ownAtoms RX6 116 "java/lang/UnsupportedOperationException" ["java/lang/RuntimeException", "java/lang/Exception"], goodWord w = true → vx_no w = true → w ∈ lw_tbl := List.forall_mem_append.mpr ⟨List.forall_mem_append.mpr ⟨List.forall_mem_append.mpr ⟨sw_bT, sw_bS⟩, List.forall_mem_append.mpr ⟨sw_bp6, List.forall_mem_append.mpr ⟨sw_bp2, sw_bp3⟩⟩⟩, List.forall_mem_cons.mpr ⟨(fun _ _ => (sw_t2 _ (List.mem_of_getElem? (i := 191) rfl))), List.forall_mem_cons.mpr ⟨(fun _ _ => (sw_t2 _ (List.mem_of_getElem? (i := 182) rfl))), List.forall_mem_cons.mpr ⟨(fun h _ => absurd h (by decide +kernel)), List.forall_mem_cons.mpr ⟨(fun _ _ => (sw_t2 _ (List.mem_of_getElem? (i := 184) rfl))), List.forall_mem_cons.mpr ⟨(fun _ _ => (sw_t2 _ (List.mem_of_getElem? (i := 101) rfl))), List.forall_mem_cons.mpr ⟨(fun _ _ => (sw_t2 _ (List.mem_of_getElem? (i := 185) rfl))), List.forall_mem_cons.mpr ⟨(fun _ _ => (sw_t2 _ (List.mem_of_getElem? (i := 186) rfl))), List.forall_mem_cons.mpr ⟨(fun _ _ => (sw_t2 _ (List.mem_of_getElem? (i := 187) rfl))), List.forall_mem_cons.mpr ⟨(fun _ _ => (sw_t2 _ (List.mem_of_getElem? (i := 188) rfl))), List.forall_mem_cons.mpr ⟨(fun h _ => absurd h (by decide +kernel)), List.forall_mem_cons.mpr ⟨(fun h _ => absurd h (by decide +kernel)), List.forall_mem_cons.mpr ⟨(fun _ _ => (sw_t2 _ (List.mem_of_getElem? (i := 85) rfl))), List.forall_mem_cons.mpr ⟨(fun _ _ => (sw_t2 _ (List.mem_of_getElem? (i := 84) rfl))), List.forall_mem_cons.mpr ⟨(fun _ _ => (sw_t2 _ (List.mem_of_getElem? (i := 189) rfl))), fun _ h => absurd h List.not_mem_nil⟩⟩⟩⟩⟩⟩⟩⟩⟩⟩⟩⟩⟩⟩⟩
theorem sw_bx3 : ∀ w ∈ (vx_atS RX6 116 "java/lang/UnsupportedOperationException" ["java/lang/RuntimeException", "java/lang/Exception"]).filter goodWord, w ∈ lw_tbl := fun w h => sw_bx30 w (List.mem_filter.mp (List.mem_filter.mp h).1).1 (List.mem_filter.mp h).2 (List.mem_filter.mp (List.mem_filter.mp h).1).2
set_option maxRecDepth 100000 in
theorem sw_bp7 : ∀ w ∈ Bundle.passSAtoms "java/lang/ArithmeticException" "java/lang/RuntimeException" 7 Bundle.six, goodWord w = true → vx_no w = true → w ∈ lw_tbl := List.forall_mem_cons.mpr ⟨(fun _ _ => (sw_t4 _ (List.mem_of_getElem? (i := 124) rfl))), List.forall_mem_cons.mpr ⟨(fun _ _ => (sw_t4 _ (List.mem_of_getElem? (i := 125) rfl))), List.forall_mem_cons.mpr ⟨(fun _ _ => (sw_t4 _ (List.mem_of_getElem? (i := 126) rfl))), List.forall_mem_cons.mpr ⟨(fun _ _ => (sw_t2 _ (List.mem_of_getElem? (i := 114) rfl))), List.forall_mem_cons.mpr ⟨(fun h _ => absurd h (by decide +kernel)), fun _ h => absurd h List.not_mem_nil⟩⟩⟩⟩⟩
set_option maxRecDepth 100000 in
theorem sw_bx40 : ∀ w ∈ Bundle.messageArmAtoms "java/lang/ArithmeticException" ["java/lang/RuntimeException", "java/lang/Exception"], goodWord w = true → vx_no w = true → w ∈ lw_tbl := List.forall_mem_append.mpr ⟨List.forall_mem_append.mpr ⟨List.forall_mem_append.mpr ⟨List.forall_mem_append.mpr ⟨sw_bT, sw_bS⟩, List.forall_mem_append.mpr ⟨sw_bp7, List.forall_mem_append.mpr ⟨sw_bp2, sw_bp3⟩⟩⟩, sw_bN⟩, List.forall_mem_cons.mpr ⟨(fun _ _ => (sw_t1 _ (List.mem_of_getElem? (i := 20) rfl))), List.forall_mem_cons.mpr ⟨(fun _ _ => (sw_t4 _ (List.mem_of_getElem? (i := 123) rfl))), List.forall_mem_cons.mpr ⟨(fun h _ => absurd h (by decide +kernel)), List.forall_mem_cons.mpr ⟨(fun _ _ => (sw_t4 _ (List.mem_of_getElem? (i := 135) rfl))), List.forall_mem_cons.mpr ⟨(fun _ _ => (sw_t2 _ (List.mem_of_getElem? (i := 97) rfl))), List.forall_mem_cons.mpr ⟨(fun _ _ => (sw_t4 _ (List.mem_of_getElem? (i := 129) rfl))), List.forall_mem_cons.mpr ⟨(fun _ _ => (sw_t4 _ (List.mem_of_getElem? (i := 130) rfl))), List.forall_mem_cons.mpr ⟨(fun _ _ => (sw_t4 _ (List.mem_of_getElem? (i := 132) rfl))), List.forall_mem_cons.mpr ⟨(fun _ _ => (sw_t4 _ (List.mem_of_getElem? (i := 128) rfl))), List.forall_mem_cons.mpr ⟨(fun h _ => absurd h (by decide +kernel)), List.forall_mem_cons.mpr ⟨(fun h _ => absurd h (by decide +kernel)), List.forall_mem_cons.mpr ⟨(fun _ _ => (sw_t2 _ (List.mem_of_getElem? (i := 85) rfl))), List.forall_mem_cons.mpr ⟨(fun _ _ => (sw_t2 _ (List.mem_of_getElem? (i := 84) rfl))), List.forall_mem_cons.mpr ⟨(fun _ _ => (sw_t4 _ (List.mem_of_getElem? (i := 127) rfl))), fun _ h => absurd h List.not_mem_nil⟩⟩⟩⟩⟩⟩⟩⟩⟩⟩⟩⟩⟩⟩⟩
theorem sw_bx4 : ∀ w ∈ (vx_atM "java/lang/ArithmeticException" ["java/lang/RuntimeException", "java/lang/Exception"]).filter goodWord, w ∈ lw_tbl := fun w h => sw_bx40 w (List.mem_filter.mp (List.mem_filter.mp h).1).1 (List.mem_filter.mp h).2 (List.mem_filter.mp (List.mem_filter.mp h).1).2
set_option maxRecDepth 100000 in
theorem sw_bpN : ∀ w ∈ Bundle.passSAtoms "java/util/NoSuchElementException" "java/lang/RuntimeException" 13 sw_b13, goodWord w = true → vx_no w = true → w ∈ lw_tbl := List.forall_mem_cons.mpr ⟨(fun _ _ => (sw_t3 _ (List.mem_of_getElem? (i := 182) rfl))), List.forall_mem_cons.mpr ⟨(fun _ _ => (sw_t3 _ (List.mem_of_getElem? (i := 183) rfl))), List.forall_mem_cons.mpr ⟨(fun _ _ => (sw_t3 _ (List.mem_of_getElem? (i := 184) rfl))), List.forall_mem_cons.mpr ⟨(fun _ _ => (sw_t2 _ (List.mem_of_getElem? (i := 114) rfl))), List.forall_mem_cons.mpr ⟨(fun h _ => absurd h (by decide +kernel)), fun _ h => absurd h List.not_mem_nil⟩⟩⟩⟩⟩
set_option maxRecDepth 100000 in
theorem sw_bx50 : ∀ w ∈ sw_ats RX6 208 "java/util/NoSuchElementException" 13 sw_b13 "java/lang/RuntimeException" ["java/lang/Exception"], goodWord w = true → vx_no w = true → w ∈ lw_tbl := List.forall_mem_append.mpr ⟨sw_bT, List.forall_mem_append.mpr ⟨sw_bS, List.forall_mem_append.mpr ⟨sw_bpN, List.forall_mem_append.mpr ⟨List.forall_mem_append.mpr ⟨sw_bp2, sw_bp3⟩, List.forall_mem_cons.mpr ⟨(fun _ _ => (sw_t3 _ (List.mem_of_getElem? (i := 181) rfl))), List.forall_mem_cons.mpr ⟨(fun _ _ => (sw_t3 _ (List.mem_of_getElem? (i := 172) rfl))), List.forall_mem_cons.mpr ⟨(fun h _ => absurd h (by decide +kernel)), List.forall_mem_cons.mpr ⟨(fun _ _ => (sw_t3 _ (List.mem_of_getElem? (i := 174) rfl))), List.forall_mem_cons.mpr ⟨(fun _ _ => (sw_t2 _ (List.mem_of_getElem? (i := 102) rfl))), List.forall_mem_cons.mpr ⟨(fun _ _ => (sw_t3 _ (List.mem_of_getElem? (i := 175) rfl))), List.forall_mem_cons.mpr ⟨(fun _ _ => (sw_t3 _ (List.mem_of_getElem? (i := 176) rfl))), List.forall_mem_cons.mpr ⟨(fun _ _ => (sw_t3 _ (List.mem_of_getElem? (i := 177) rfl))), List.forall_mem_cons.mpr ⟨(fun _ _ => (sw_t3 _ (List.mem_of_getElem? (i := 178) rfl))), List.forall_mem_cons.mpr ⟨(fun h _ => absurd h (by decide +kernel)), List.forall_mem_cons.mpr ⟨(fun h _ => absurd h (by decide +kernel)), List.forall_mem_cons.mpr ⟨(fun _ _ => (sw_t2 _ (List.mem_of_getElem? (i := 85) rfl))), List.forall_mem_cons.mpr ⟨(fun _ _ => (sw_t2 _ (List.mem_of_getElem? (i := 84) rfl))), List.forall_mem_cons.mpr ⟨(fun _ _ => (sw_t3 _ (List.mem_of_getElem? (i := 179) rfl))), fun _ h => absurd h List.not_mem_nil⟩⟩⟩⟩⟩⟩⟩⟩⟩⟩⟩⟩⟩⟩⟩⟩⟩⟩
theorem sw_bx5 : ∀ w ∈ (sw_atN RX6 208 "java/util/NoSuchElementException" 13 sw_b13 "java/lang/RuntimeException" ["java/lang/Exception"]).filter goodWord, w ∈ lw_tbl := fun w h => sw_bx50 w (List.mem_filter.mp (List.mem_filter.mp h).1).1 (List.mem_filter.mp h).2 (List.mem_filter.mp (List.mem_filter.mp h).1).2
set_option maxRecDepth 100000 in
theorem sw_bx60 : ∀ w ∈ Bundle.ownAtoms RX6 231 "java/lang/IndexOutOfBoundsException" ["java/lang/RuntimeException", "java/lang/Exception"], goodWord w = true → vx_no w = true → w ∈ lw_tbl := List.forall_mem_append.mpr ⟨List.forall_mem_append.mpr ⟨List.forall_mem_append.mpr ⟨sw_bT, sw_bS⟩, List.forall_mem_append.mpr ⟨sw_bp1, List.forall_mem_append.mpr ⟨sw_bp2, sw_bp3⟩⟩⟩, List.forall_mem_cons.mpr ⟨(fun _ _ => (sw_t4 _ (List.mem_of_getElem? (i := 21) rfl))), List.forall_mem_cons.mpr ⟨(fun _ _ => (sw_t4 _ (List.mem_of_getElem? (i := 12) rfl))), List.forall_mem_cons.mpr ⟨(fun h _ => absurd h (by decide +kernel)), List.forall_mem_cons.mpr ⟨(fun _ _ => (sw_t4 _ (List.mem_of_getElem? (i := 14) rfl))), List.forall_mem_cons.mpr ⟨(fun _ _ => (sw_t2 _ (List.mem_of_getElem? (i := 100) rfl))), List.forall_mem_cons.mpr ⟨(fun _ _ => (sw_t4 _ (List.mem_of_getElem? (i := 15) rfl))), List.forall_mem_cons.mpr ⟨(fun _ _ => (sw_t4 _ (List.mem_of_getElem? (i := 16) rfl))), List.forall_mem_cons.mpr ⟨(fun _ _ => (sw_t4 _ (List.mem_of_getElem? (i := 17) rfl))), List.forall_mem_cons.mpr ⟨(fun _ _ => (sw_t4 _ (List.mem_of_getElem? (i := 18) rfl))), List.forall_mem_cons.mpr ⟨(fun h _ => absurd h (by decide +kernel)), List.forall_mem_cons.mpr ⟨(fun h _ => absurd h (by decide +kernel)), List.forall_mem_cons.mpr ⟨(fun _ _ => (sw_t2 _ (List.mem_of_getElem? (i := 85) rfl))), List.forall_mem_cons.mpr ⟨(fun _ _ => (sw_t2 _ (List.mem_of_getElem? (i := 84) rfl))), List.forall_mem_cons.mpr ⟨(fun _ _ => (sw_t4 _ (List.mem_of_getElem? (i := 19) rfl))), fun _ h => absurd h List.not_mem_nil⟩⟩⟩⟩⟩⟩⟩⟩⟩⟩⟩⟩⟩⟩⟩
theorem sw_bx6 : ∀ w ∈ (vx_atS RX6 231 "java/lang/IndexOutOfBoundsException" ["java/lang/RuntimeException", "java/lang/Exception"]).filter goodWord, w ∈ lw_tbl := fun w h => sw_bx60 w (List.mem_filter.mp (List.mem_filter.mp h).1).1 (List.mem_filter.mp h).2 (List.mem_filter.mp (List.mem_filter.mp h).1).2
set_option maxRecDepth 100000 in
theorem sw_bx70 : ∀ w ∈ Bundle.ownAtoms RX6 302 "java/lang/ArithmeticException" ["java/lang/RuntimeException", "java/lang/Exception"], goodWord w = true → vx_no w = true → w ∈ lw_tbl := List.forall_mem_append.mpr ⟨List.forall_mem_append.mpr ⟨List.forall_mem_append.mpr ⟨sw_bT, sw_bS⟩, List.forall_mem_append.mpr ⟨sw_bp7, List.forall_mem_append.mpr ⟨sw_bp2, sw_bp3⟩⟩⟩, List.forall_mem_cons.mpr ⟨(fun _ _ => (sw_t4 _ (List.mem_of_getElem? (i := 142) rfl))), List.forall_mem_cons.mpr ⟨(fun _ _ => (sw_t4 _ (List.mem_of_getElem? (i := 123) rfl))), List.forall_mem_cons.mpr ⟨(fun h _ => absurd h (by decide +kernel)), List.forall_mem_cons.mpr ⟨(fun _ _ => (sw_t4 _ (List.mem_of_getElem? (i := 135) rfl))), List.forall_mem_cons.mpr ⟨(fun _ _ => (sw_t2 _ (List.mem_of_getElem? (i := 97) rfl))), List.forall_mem_cons.mpr ⟨(fun _ _ => (sw_t4 _ (List.mem_of_getElem? (i := 129) rfl))), List.forall_mem_cons.mpr ⟨(fun _ _ => (sw_t4 _ (List.mem_of_getElem? (i := 130) rfl))), List.forall_mem_cons.mpr ⟨(fun _ _ => (sw_t4 _ (List.mem_of_getElem? (i := 132) rfl))), List.forall_mem_cons.mpr ⟨(fun _ _ => (sw_t4 _ (List.mem_of_getElem? (i := 128) rfl))), List.forall_mem_cons.mpr ⟨(fun h _ => absurd h (by decide +kernel)), List.forall_mem_cons.mpr ⟨(fun h _ => absurd h (by decide +kernel)), List.forall_mem_cons.mpr ⟨(fun _ _ => (sw_t2 _ (List.mem_of_getElem? (i := 85) rfl))), List.forall_mem_cons.mpr ⟨(fun _ _ => (sw_t2 _ (List.mem_of_getElem? (i := 84) rfl))), List.forall_mem_cons.mpr ⟨(fun _ _ => (sw_t4 _ (List.mem_of_getElem? (i := 127) rfl))), fun _ h => absurd h List.not_mem_nil⟩⟩⟩⟩⟩⟩⟩⟩⟩⟩⟩⟩⟩⟩⟩
theorem sw_bx7 : ∀ w ∈ (vx_atS RX6 302 "java/lang/ArithmeticException" ["java/lang/RuntimeException", "java/lang/Exception"]).filter goodWord, w ∈ lw_tbl := fun w h => sw_bx70 w (List.mem_filter.mp (List.mem_filter.mp h).1).1 (List.mem_filter.mp h).2 (List.mem_filter.mp (List.mem_filter.mp h).1).2
set_option maxRecDepth 100000 in
theorem sw_u0 : ∀ w ∈ wsX00, w ∈ lw_tbl := fun w h => by
  obtain ⟨k, hk, rfl⟩ := List.mem_map.mp h
  have hk := List.mem_range.mp hk
  match k, hk with
  | 0, _ => exact (sw_t1 _ (List.mem_of_getElem? (i := 146) rfl))
  | 1, _ => exact (sw_t1 _ (List.mem_of_getElem? (i := 148) rfl))
  | k + 2, hk => exact absurd hk (by omega)
set_option maxRecDepth 100000 in
theorem sw_u1 : ∀ w ∈ wsX10, w ∈ lw_tbl := fun w h => by
  obtain ⟨k, hk, rfl⟩ := List.mem_map.mp h
  have hk := List.mem_range.mp hk
  match k, hk with
  | 0, _ => exact (sw_t1 _ (List.mem_of_getElem? (i := 94) rfl))
  | 1, _ => exact (sw_t1 _ (List.mem_of_getElem? (i := 96) rfl))
  | 2, _ => exact (sw_t1 _ (List.mem_of_getElem? (i := 98) rfl))
  | 3, _ => exact (sw_t1 _ (List.mem_of_getElem? (i := 100) rfl))
  | 4, _ => exact (sw_t1 _ (List.mem_of_getElem? (i := 102) rfl))
  | k + 5, hk => exact absurd hk (by omega)
set_option maxRecDepth 100000 in
theorem sw_u2 : ∀ w ∈ wsX20, w ∈ lw_tbl := fun w h => by
  obtain ⟨k, hk, rfl⟩ := List.mem_map.mp h
  have hk := List.mem_range.mp hk
  match k, hk with
  | 0, _ => exact (sw_t1 _ (List.mem_of_getElem? (i := 121) rfl))
  | 1, _ => exact (sw_t1 _ (List.mem_of_getElem? (i := 123) rfl))
  | 2, _ => exact (sw_t1 _ (List.mem_of_getElem? (i := 125) rfl))
  | 3, _ => exact (sw_t1 _ (List.mem_of_getElem? (i := 127) rfl))
  | 4, _ => exact (sw_t1 _ (List.mem_of_getElem? (i := 129) rfl))
  | 5, _ => exact (sw_t1 _ (List.mem_of_getElem? (i := 131) rfl))
  | 6, _ => exact (sw_t1 _ (List.mem_of_getElem? (i := 133) rfl))
  | 7, _ => exact (sw_t1 _ (List.mem_of_getElem? (i := 135) rfl))
  | k + 8, hk => exact absurd hk (by omega)
set_option maxRecDepth 100000 in
theorem sw_u3 : ∀ w ∈ wsX30, w ∈ lw_tbl := fun w h => by
  obtain ⟨k, hk, rfl⟩ := List.mem_map.mp h
  have hk := List.mem_range.mp hk
  match k, hk with
  | 0, _ => exact (sw_t1 _ (List.mem_of_getElem? (i := 56) rfl))
  | 1, _ => exact (sw_t1 _ (List.mem_of_getElem? (i := 58) rfl))
  | 2, _ => exact (sw_t1 _ (List.mem_of_getElem? (i := 60) rfl))
  | k + 3, hk => exact absurd hk (by omega)
set_option maxRecDepth 100000 in
theorem sw_u4 : ∀ w ∈ wsX40, w ∈ lw_tbl := fun w h => by
  obtain ⟨k, hk, rfl⟩ := List.mem_map.mp h
  have hk := List.mem_range.mp hk
  match k, hk with
  | 0, _ => exact (sw_t1 _ (List.mem_of_getElem? (i := 38) rfl))
  | 1, _ => exact (sw_t1 _ (List.mem_of_getElem? (i := 40) rfl))
  | 2, _ => exact (sw_t1 _ (List.mem_of_getElem? (i := 42) rfl))
  | k + 3, hk => exact absurd hk (by omega)
set_option maxRecDepth 100000 in
theorem sw_u5 : ∀ w ∈ wsX50, w ∈ lw_tbl := fun w h => by
  obtain ⟨k, hk, rfl⟩ := List.mem_map.mp h
  have hk := List.mem_range.mp hk
  match k, hk with
  | 0, _ => exact (sw_t1 _ (List.mem_of_getElem? (i := 74) rfl))
  | 1, _ => exact (sw_t1 _ (List.mem_of_getElem? (i := 76) rfl))
  | 2, _ => exact (sw_t1 _ (List.mem_of_getElem? (i := 78) rfl))
  | 3, _ => exact (sw_t1 _ (List.mem_of_getElem? (i := 80) rfl))
  | k + 4, hk => exact absurd hk (by omega)
set_option maxRecDepth 100000 in
theorem sw_u6 : ∀ w ∈ wsX60, w ∈ lw_tbl := fun w h => by
  obtain ⟨k, hk, rfl⟩ := List.mem_map.mp h
  have hk := List.mem_range.mp hk
  match k, hk with
  | 0, _ => exact (sw_t1 _ (List.mem_of_getElem? (i := 163) rfl))
  | 1, _ => exact (sw_t1 _ (List.mem_of_getElem? (i := 165) rfl))
  | 2, _ => exact (sw_t1 _ (List.mem_of_getElem? (i := 167) rfl))
  | 3, _ => exact (sw_t1 _ (List.mem_of_getElem? (i := 169) rfl))
  | 4, _ => exact (sw_t1 _ (List.mem_of_getElem? (i := 171) rfl))
  | 5, _ => exact (sw_t1 _ (List.mem_of_getElem? (i := 173) rfl))
  | 6, _ => exact (sw_t1 _ (List.mem_of_getElem? (i := 175) rfl))
  | 7, _ => exact (sw_t1 _ (List.mem_of_getElem? (i := 177) rfl))
  | 8, _ => exact (sw_t1 _ (List.mem_of_getElem? (i := 179) rfl))
  | 9, _ => exact (sw_t1 _ (List.mem_of_getElem? (i := 181) rfl))
  | 10, _ => exact (sw_t1 _ (List.mem_of_getElem? (i := 183) rfl))
  | 11, _ => exact (sw_t1 _ (List.mem_of_getElem? (i := 185) rfl))
  | k + 12, hk => exact absurd hk (by omega)
set_option maxRecDepth 100000 in
theorem sw_u7 : ∀ w ∈ wsX70, w ∈ lw_tbl := fun w h => by
  obtain ⟨k, hk, rfl⟩ := List.mem_map.mp h
  have hk := List.mem_range.mp hk
  match k, hk with
  | 0, _ => exact (sw_t4 _ (List.mem_of_getElem? (i := 194) rfl))
  | 1, _ => exact (sw_t4 _ (List.mem_of_getElem? (i := 196) rfl))
  | 2, _ => exact (sw_t4 _ (List.mem_of_getElem? (i := 198) rfl))
  | 3, _ => exact (sw_t4 _ (List.mem_of_getElem? (i := 200) rfl))
  | 4, _ => exact (sw_t4 _ (List.mem_of_getElem? (i := 202) rfl))
  | 5, _ => exact (sw_t4 _ (List.mem_of_getElem? (i := 204) rfl))
  | 6, _ => exact (sw_t4 _ (List.mem_of_getElem? (i := 206) rfl))
  | 7, _ => exact (sw_t4 _ (List.mem_of_getElem? (i := 208) rfl))
  | 8, _ => exact (sw_t4 _ (List.mem_of_getElem? (i := 210) rfl))
  | 9, _ => exact (sw_t4 _ (List.mem_of_getElem? (i := 212) rfl))
  | 10, _ => exact (sw_t4 _ (List.mem_of_getElem? (i := 214) rfl))
  | 11, _ => exact (sw_t4 _ (List.mem_of_getElem? (i := 216) rfl))
  | 12, _ => exact (sw_t4 _ (List.mem_of_getElem? (i := 218) rfl))
  | 13, _ => exact (sw_t4 _ (List.mem_of_getElem? (i := 220) rfl))
  | 14, _ => exact (sw_t4 _ (List.mem_of_getElem? (i := 222) rfl))
  | 15, _ => exact (sw_t4 _ (List.mem_of_getElem? (i := 224) rfl))
  | 16, _ => exact (sw_t4 _ (List.mem_of_getElem? (i := 226) rfl))
  | 17, _ => exact (sw_t4 _ (List.mem_of_getElem? (i := 228) rfl))
  | 18, _ => exact (sw_t4 _ (List.mem_of_getElem? (i := 230) rfl))
  | 19, _ => exact (sw_t4 _ (List.mem_of_getElem? (i := 232) rfl))
  | 20, _ => exact (sw_t4 _ (List.mem_of_getElem? (i := 234) rfl))
  | 21, _ => exact (sw_t4 _ (List.mem_of_getElem? (i := 236) rfl))
  | 22, _ => exact (sw_t4 _ (List.mem_of_getElem? (i := 238) rfl))
  | 23, _ => exact (sw_t5 _ (List.mem_of_getElem? (i := 0) rfl))
  | 24, _ => exact (sw_t5 _ (List.mem_of_getElem? (i := 2) rfl))
  | 25, _ => exact (sw_t5 _ (List.mem_of_getElem? (i := 4) rfl))
  | 26, _ => exact (sw_t5 _ (List.mem_of_getElem? (i := 6) rfl))
  | 27, _ => exact (sw_t5 _ (List.mem_of_getElem? (i := 8) rfl))
  | 28, _ => exact (sw_t5 _ (List.mem_of_getElem? (i := 10) rfl))
  | 29, _ => exact (sw_t5 _ (List.mem_of_getElem? (i := 12) rfl))
  | 30, _ => exact (sw_t5 _ (List.mem_of_getElem? (i := 14) rfl))
  | 31, _ => exact (sw_t5 _ (List.mem_of_getElem? (i := 16) rfl))
  | 32, _ => exact (sw_t5 _ (List.mem_of_getElem? (i := 18) rfl))
  | k + 33, hk => exact absurd hk (by omega)
set_option maxRecDepth 100000 in
theorem sw_in0 : ∀ w ∈ wsL_law0, w ∈ lw_tbl := List.forall_mem_append.mpr ⟨List.forall_mem_append.mpr ⟨List.forall_mem_append.mpr ⟨List.forall_mem_append.mpr ⟨List.forall_mem_append.mpr ⟨List.forall_mem_append.mpr ⟨List.forall_mem_append.mpr ⟨List.forall_mem_append.mpr ⟨List.forall_mem_append.mpr ⟨List.forall_mem_append.mpr ⟨sw_r1, List.forall_mem_append.mpr ⟨sw_r2, List.forall_mem_append.mpr ⟨sw_r3, List.forall_mem_append.mpr ⟨sw_r4, List.forall_mem_append.mpr ⟨sw_r5, List.forall_mem_append.mpr ⟨sw_r6, List.forall_mem_append.mpr ⟨sw_r7, List.forall_mem_append.mpr ⟨sw_r8, List.forall_mem_append.mpr ⟨sw_r9, List.forall_mem_append.mpr ⟨sw_r10, List.forall_mem_append.mpr ⟨sw_r11, List.forall_mem_append.mpr ⟨sw_r12, List.forall_mem_append.mpr ⟨sw_r13, List.forall_mem_append.mpr ⟨sw_r14, List.forall_mem_append.mpr ⟨sw_r15, List.forall_mem_append.mpr ⟨sw_r16, List.forall_mem_append.mpr ⟨sw_r17, List.forall_mem_append.mpr ⟨sw_r18, List.forall_mem_append.mpr ⟨sw_r19, List.forall_mem_append.mpr ⟨sw_r20, List.forall_mem_append.mpr ⟨sw_r21, List.forall_mem_append.mpr ⟨sw_r22, List.forall_mem_append.mpr ⟨sw_r23, List.forall_mem_append.mpr ⟨sw_r24, List.forall_mem_append.mpr ⟨sw_r25, List.forall_mem_append.mpr ⟨sw_r26, List.forall_mem_append.mpr ⟨sw_r27, List.forall_mem_append.mpr ⟨sw_r28, List.forall_mem_append.mpr ⟨sw_r29, List.forall_mem_append.mpr ⟨sw_r30, List.forall_mem_append.mpr ⟨sw_r31, List.forall_mem_append.mpr ⟨sw_r32, List.forall_mem_append.mpr ⟨sw_r33, List.forall_mem_append.mpr ⟨sw_r34, List.forall_mem_append.mpr ⟨sw_r35, List.forall_mem_append.mpr ⟨sw_r36, sw_r37⟩⟩⟩⟩⟩⟩⟩⟩⟩⟩⟩⟩⟩⟩⟩⟩⟩⟩⟩⟩⟩⟩⟩⟩⟩⟩⟩⟩⟩⟩⟩⟩⟩⟩⟩⟩, sw_u6⟩, sw_u7⟩, sw_u4⟩, sw_u3⟩, sw_u5⟩, sw_u1⟩, sw_u2⟩, sw_u0⟩, fun _ h => absurd h List.not_mem_nil⟩
theorem sw_in : ∀ w ∈ wsL_law, w ∈ lw_tbl := List.forall_mem_append.mpr ⟨List.forall_mem_append.mpr ⟨List.forall_mem_append.mpr ⟨List.forall_mem_append.mpr ⟨List.forall_mem_append.mpr ⟨List.forall_mem_append.mpr ⟨List.forall_mem_append.mpr ⟨List.forall_mem_append.mpr ⟨sw_in0, sw_bx0⟩, sw_bx1⟩, sw_bx2⟩, sw_bx3⟩, sw_bx4⟩, sw_bx5⟩, sw_bx6⟩, sw_bx7⟩
