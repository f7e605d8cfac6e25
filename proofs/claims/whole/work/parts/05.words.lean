/-! WORDS: what the calls and the constants need -/
set_option maxRecDepth 20000 in
theorem kc_init : Cond.code y_init b_init 1 none ∈ wG := in_wG (List.mem_append_right _ (List.mem_of_getElem? (i := 16) rfl)) rfl
theorem ki_init : Cond.instanceMethod y_init ∈ wG := in_wG (List.mem_append_right _ (List.mem_of_getElem? (i := 15) (by decide +kernel))) rfl
set_option maxRecDepth 20000 in
theorem kc_batch : Cond.code y_batch b_batch 1 (some .int) ∈ wG := in_wG (List.mem_append_right _ (List.mem_of_getElem? (i := 90) rfl)) rfl
theorem ki_batch : Cond.instanceMethod y_batch ∈ wG := in_wG (List.mem_append_right _ (List.mem_of_getElem? (i := 88) (by decide +kernel))) rfl
theorem ks_batch : Cond.selects "MoveRows" y_batch y_batch ∈ wG := in_wG (by decide +kernel) rfl
set_option maxRecDepth 20000 in
theorem kc_entry : Cond.code y_entry b_entry 5 (some .int) ∈ wG := in_wG (List.mem_append_right _ (List.mem_of_getElem? (i := 177) rfl)) rfl
theorem ki_entry : Cond.instanceMethod y_entry ∈ wG := in_wG (List.mem_append_right _ (List.mem_of_getElem? (i := 175) (by decide +kernel))) rfl
theorem ks_entry : Cond.selects "MoveRows" y_entry y_entry ∈ wG := in_wG (by decide +kernel) rfl
set_option maxRecDepth 20000 in
theorem kc_hold : Cond.code y_hold b_hold 2 none ∈ wG := in_wG (List.mem_append_right _ (List.mem_of_getElem? (i := 260) rfl)) rfl
theorem ki_hold : Cond.instanceMethod y_hold ∈ wG := in_wG (List.mem_append_right _ (List.mem_of_getElem? (i := 258) (by decide +kernel))) rfl
theorem ks_hold : Cond.selects "MoveRows" y_hold y_hold ∈ wG := in_wG (by decide +kernel) rfl
set_option maxRecDepth 20000 in
theorem kc_free : Cond.code y_free b_free 2 none ∈ wG := in_wG (List.mem_append_right _ (List.mem_of_getElem? (i := 308) rfl)) rfl
theorem ki_free : Cond.instanceMethod y_free ∈ wG := in_wG (List.mem_append_right _ (List.mem_of_getElem? (i := 306) (by decide +kernel))) rfl
theorem ks_free : Cond.selects "MoveRows" y_free y_free ∈ wG := in_wG (by decide +kernel) rfl
set_option maxRecDepth 20000 in
theorem kc_drop : Cond.code y_drop b_drop 2 none ∈ wG := in_wG (List.mem_append_right _ (List.mem_of_getElem? (i := 316) rfl)) rfl
theorem ki_drop : Cond.instanceMethod y_drop ∈ wG := in_wG (List.mem_append_right _ (List.mem_of_getElem? (i := 314) (by decide +kernel))) rfl
theorem ks_drop : Cond.selects "MoveRows" y_drop y_drop ∈ wG := in_wG (by decide +kernel) rfl
set_option maxRecDepth 20000 in
theorem kc_post : Cond.code y_post b_post 3 none ∈ wG := in_wG (List.mem_append_right _ (List.mem_of_getElem? (i := 328) rfl)) rfl
theorem ki_post : Cond.instanceMethod y_post ∈ wG := in_wG (List.mem_append_right _ (List.mem_of_getElem? (i := 326) (by decide +kernel))) rfl
theorem ks_post : Cond.selects "MoveRows" y_post y_post ∈ wG := in_wG (by decide +kernel) rfl
set_option maxRecDepth 20000 in
theorem kc_reverse : Cond.code y_reverse b_reverse 3 (some .int) ∈ wG := in_wG (List.mem_append_right _ (List.mem_of_getElem? (i := 348) rfl)) rfl
theorem ki_reverse : Cond.instanceMethod y_reverse ∈ wG := in_wG (List.mem_append_right _ (List.mem_of_getElem? (i := 346) (by decide +kernel))) rfl
theorem ks_reverse : Cond.selects "MoveRows" y_reverse y_reverse ∈ wG := in_wG (by decide +kernel) rfl
set_option maxRecDepth 20000 in
theorem kc_undo : Cond.code y_undo b_undo 4 (some .int) ∈ wG := in_wG (List.mem_append_right _ (List.mem_of_getElem? (i := 361) rfl)) rfl
theorem ki_undo : Cond.instanceMethod y_undo ∈ wG := in_wG (List.mem_append_right _ (List.mem_of_getElem? (i := 359) (by decide +kernel))) rfl
theorem ks_undo : Cond.selects "MoveRows" y_undo y_undo ∈ wG := in_wG (by decide +kernel) rfl
set_option maxRecDepth 20000 in
theorem kc_close : Cond.code y_close b_close 3 (some .int) ∈ wG := in_wG (List.mem_append_right _ (List.mem_of_getElem? (i := 382) rfl)) rfl
theorem ki_close : Cond.instanceMethod y_close ∈ wG := in_wG (List.mem_append_right _ (List.mem_of_getElem? (i := 380) (by decide +kernel))) rfl
theorem ks_close : Cond.selects "MoveRows" y_close y_close ∈ wG := in_wG (by decide +kernel) rfl
set_option maxRecDepth 20000 in
theorem kc_carry : Cond.code y_carry b_carry 3 (some .long) ∈ wG := in_wG (List.mem_append_right _ (List.mem_of_getElem? (i := 392) rfl)) rfl
theorem ki_carry : Cond.instanceMethod y_carry ∈ wG := in_wG (List.mem_append_right _ (List.mem_of_getElem? (i := 390) (by decide +kernel))) rfl
theorem ks_carry : Cond.selects "MoveRows" y_carry y_carry ∈ wG := in_wG (by decide +kernel) rfl
set_option maxRecDepth 20000 in
theorem kc_stock : Cond.code y_stock b_stock 3 (some .long) ∈ wG := in_wG (List.mem_append_right _ (List.mem_of_getElem? (i := 409) rfl)) rfl
theorem ki_stock : Cond.instanceMethod y_stock ∈ wG := in_wG (List.mem_append_right _ (List.mem_of_getElem? (i := 407) (by decide +kernel))) rfl
theorem ks_stock : Cond.selects "MoveRows" y_stock y_stock ∈ wG := in_wG (by decide +kernel) rfl
set_option maxRecDepth 20000 in
theorem kc_upTo : Cond.code y_upTo b_upTo 8 (some .long) ∈ wG := in_wG (List.mem_append_right _ (List.mem_of_getElem? (i := 416) rfl)) rfl
theorem ki_upTo : Cond.instanceMethod y_upTo ∈ wG := in_wG (List.mem_append_right _ (List.mem_of_getElem? (i := 414) (by decide +kernel))) rfl
theorem ks_upTo : Cond.selects "MoveRows" y_upTo y_upTo ∈ wG := in_wG (by decide +kernel) rfl
set_option maxRecDepth 20000 in
theorem kc_available : Cond.code y_available b_available 3 (some .long) ∈ wG := in_wG (List.mem_append_right _ (List.mem_of_getElem? (i := 427) rfl)) rfl
theorem ki_available : Cond.instanceMethod y_available ∈ wG := in_wG (List.mem_append_right _ (List.mem_of_getElem? (i := 425) (by decide +kernel))) rfl
theorem ks_available : Cond.selects "MoveRows" y_available y_available ∈ wG := in_wG (by decide +kernel) rfl
set_option maxRecDepth 20000 in
theorem kc_at : Cond.code y_at b_at 6 (some .long) ∈ wG := in_wG (List.mem_append_right _ (List.mem_of_getElem? (i := 434) rfl)) rfl
theorem ki_at : Cond.instanceMethod y_at ∈ wG := in_wG (List.mem_append_right _ (List.mem_of_getElem? (i := 432) (by decide +kernel))) rfl
theorem ks_at : Cond.selects "MoveRows" y_at y_at ∈ wG := in_wG (by decide +kernel) rfl
set_option maxRecDepth 20000 in
theorem kc_row : Cond.code y_row b_row 6 (some .int) ∈ wG := in_wG (List.mem_append_right _ (List.mem_of_getElem? (i := 441) rfl)) rfl
theorem ki_row : Cond.instanceMethod y_row ∈ wG := in_wG (List.mem_append_right _ (List.mem_of_getElem? (i := 439) (by decide +kernel))) rfl
theorem ks_row : Cond.selects "MoveRows" y_row y_row ∈ wG := in_wG (by decide +kernel) rfl
set_option maxRecDepth 20000 in
theorem kc_told : Cond.code y_told b_told 3 (some .int) ∈ wG := in_wG (List.mem_append_right _ (List.mem_of_getElem? (i := 454) rfl)) rfl
theorem ki_told : Cond.instanceMethod y_told ∈ wG := in_wG (List.mem_append_right _ (List.mem_of_getElem? (i := 452) (by decide +kernel))) rfl
theorem ks_told : Cond.selects "MoveRows" y_told y_told ∈ wG := in_wG (by decide +kernel) rfl
set_option maxRecDepth 20000 in
theorem kc_packed : Cond.code y_packed b_packed 4 (some .long) ∈ wG := in_wG (List.mem_append_right _ (List.mem_of_getElem? (i := 462) rfl)) rfl
theorem ki_packed : Cond.instanceMethod y_packed ∈ wG := in_wG (List.mem_append_right _ (List.mem_of_getElem? (i := 460) (by decide +kernel))) rfl
theorem ks_packed : Cond.selects "MoveRows" y_packed y_packed ∈ wG := in_wG (by decide +kernel) rfl
set_option maxRecDepth 20000 in
theorem kc_count : Cond.code y_count b_count 2 (some .int) ∈ wG := in_wG (List.mem_append_right _ (List.mem_of_getElem? (i := 74) rfl)) rfl
theorem ki_count : Cond.instanceMethod y_count ∈ wG := in_wG (List.mem_append_right _ (List.mem_of_getElem? (i := 72) (by decide +kernel))) rfl
theorem ks_count : Cond.selects "MoveRows" y_count y_count ∈ wG := in_wG (by decide +kernel) rfl
set_option maxRecDepth 20000 in
theorem kc_checkBatch : Cond.code y_checkBatch b_checkBatch 2 none ∈ wG := in_wG (List.mem_append_right _ (List.mem_of_getElem? (i := 181) rfl)) rfl
theorem ki_checkBatch : Cond.instanceMethod y_checkBatch ∈ wG := in_wG (List.mem_append_right _ (List.mem_of_getElem? (i := 180) (by decide +kernel))) rfl
theorem ks_checkBatch : Cond.selects "MoveRows" y_checkBatch y_checkBatch ∈ wG := in_wG (by decide +kernel) rfl
set_option maxRecDepth 20000 in
theorem kc_checkAccount : Cond.code y_checkAccount b_checkAccount 1 none ∈ wG := in_wG (List.mem_append_right _ (List.mem_of_getElem? (i := 200) rfl)) rfl
theorem ki_checkAccount : Cond.static y_checkAccount ∈ wG := in_wG (List.mem_append_right _ (List.mem_of_getElem? (i := 199) (by decide +kernel))) rfl
set_option maxRecDepth 20000 in
theorem kc_checkPlace : Cond.code y_checkPlace b_checkPlace 1 none ∈ wG := in_wG (List.mem_append_right _ (List.mem_of_getElem? (i := 396) rfl)) rfl
theorem ki_checkPlace : Cond.static y_checkPlace ∈ wG := in_wG (List.mem_append_right _ (List.mem_of_getElem? (i := 395) (by decide +kernel))) rfl
set_option maxRecDepth 20000 in
theorem kc_checkLot : Cond.code y_checkLot b_checkLot 1 none ∈ wG := in_wG (List.mem_append_right _ (List.mem_of_getElem? (i := 219) rfl)) rfl
theorem ki_checkLot : Cond.static y_checkLot ∈ wG := in_wG (List.mem_append_right _ (List.mem_of_getElem? (i := 218) (by decide +kernel))) rfl
set_option maxRecDepth 20000 in
theorem kc_checkAmount : Cond.code y_checkAmount b_checkAmount 1 none ∈ wG := in_wG (List.mem_append_right _ (List.mem_of_getElem? (i := 223) rfl)) rfl
theorem ki_checkAmount : Cond.static y_checkAmount ∈ wG := in_wG (List.mem_append_right _ (List.mem_of_getElem? (i := 222) (by decide +kernel))) rfl
set_option maxRecDepth 20000 in
theorem kc_checkDay : Cond.code y_checkDay b_checkDay 1 none ∈ wG := in_wG (List.mem_append_right _ (List.mem_of_getElem? (i := 331) rfl)) rfl
theorem ki_checkDay : Cond.static y_checkDay ∈ wG := in_wG (List.mem_append_right _ (List.mem_of_getElem? (i := 330) (by decide +kernel))) rfl
set_option maxRecDepth 20000 in
theorem kc_checkNotClosed : Cond.code y_checkNotClosed b_checkNotClosed 2 none ∈ wG := in_wG (List.mem_append_right _ (List.mem_of_getElem? (i := 336) rfl)) rfl
theorem ki_checkNotClosed : Cond.instanceMethod y_checkNotClosed ∈ wG := in_wG (List.mem_append_right _ (List.mem_of_getElem? (i := 335) (by decide +kernel))) rfl
theorem ks_checkNotClosed : Cond.selects "MoveRows" y_checkNotClosed y_checkNotClosed ∈ wG := in_wG (by decide +kernel) rfl
set_option maxRecDepth 20000 in
theorem kc_checkOpenOrHeld : Cond.code y_checkOpenOrHeld b_checkOpenOrHeld 2 none ∈ wG := in_wG (List.mem_append_right _ (List.mem_of_getElem? (i := 320) rfl)) rfl
theorem ki_checkOpenOrHeld : Cond.instanceMethod y_checkOpenOrHeld ∈ wG := in_wG (List.mem_append_right _ (List.mem_of_getElem? (i := 319) (by decide +kernel))) rfl
theorem ks_checkOpenOrHeld : Cond.selects "MoveRows" y_checkOpenOrHeld y_checkOpenOrHeld ∈ wG := in_wG (by decide +kernel) rfl
set_option maxRecDepth 20000 in
theorem kc_checkSound : Cond.code y_checkSound b_checkSound 2 none ∈ wG := in_wG (List.mem_append_right _ (List.mem_of_getElem? (i := 264) rfl)) rfl
theorem ki_checkSound : Cond.instanceMethod y_checkSound ∈ wG := in_wG (List.mem_append_right _ (List.mem_of_getElem? (i := 263) (by decide +kernel))) rfl
theorem ks_checkSound : Cond.selects "MoveRows" y_checkSound y_checkSound ∈ wG := in_wG (by decide +kernel) rfl
set_option maxRecDepth 20000 in
theorem kc_checkEnoughFree : Cond.code y_checkEnoughFree b_checkEnoughFree 3 none ∈ wG := in_wG (List.mem_append_right _ (List.mem_of_getElem? (i := 277) rfl)) rfl
theorem ki_checkEnoughFree : Cond.instanceMethod y_checkEnoughFree ∈ wG := in_wG (List.mem_append_right _ (List.mem_of_getElem? (i := 276) (by decide +kernel))) rfl
theorem ks_checkEnoughFree : Cond.selects "MoveRows" y_checkEnoughFree y_checkEnoughFree ∈ wG := in_wG (by decide +kernel) rfl
set_option maxRecDepth 20000 in
theorem kc_hasRoomFor : Cond.code y_hasRoomFor b_hasRoomFor 2 (some .boolean) ∈ wG := in_wG (List.mem_append_right _ (List.mem_of_getElem? (i := 94) rfl)) rfl
theorem ki_hasRoomFor : Cond.instanceMethod y_hasRoomFor ∈ wG := in_wG (List.mem_append_right _ (List.mem_of_getElem? (i := 93) (by decide +kernel))) rfl
theorem ks_hasRoomFor : Cond.selects "MoveRows" y_hasRoomFor y_hasRoomFor ∈ wG := in_wG (by decide +kernel) rfl
set_option maxRecDepth 20000 in
theorem kc_isSound : Cond.code y_isSound b_isSound 3 (some .boolean) ∈ wG := in_wG (List.mem_append_right _ (List.mem_of_getElem? (i := 268) rfl)) rfl
theorem ki_isSound : Cond.instanceMethod y_isSound ∈ wG := in_wG (List.mem_append_right _ (List.mem_of_getElem? (i := 267) (by decide +kernel))) rfl
theorem ks_isSound : Cond.selects "MoveRows" y_isSound y_isSound ∈ wG := in_wG (by decide +kernel) rfl
set_option maxRecDepth 20000 in
theorem kc_sumOfLot : Cond.code y_sumOfLot b_sumOfLot 7 (some .long) ∈ wG := in_wG (List.mem_append_right _ (List.mem_of_getElem? (i := 272) rfl)) rfl
theorem ki_sumOfLot : Cond.instanceMethod y_sumOfLot ∈ wG := in_wG (List.mem_append_right _ (List.mem_of_getElem? (i := 271) (by decide +kernel))) rfl
theorem ks_sumOfLot : Cond.selects "MoveRows" y_sumOfLot y_sumOfLot ∈ wG := in_wG (by decide +kernel) rfl
set_option maxRecDepth 20000 in
theorem kc_netOfCell : Cond.code y_netOfCell b_netOfCell 7 (some .long) ∈ wG := in_wG (List.mem_append_right _ (List.mem_of_getElem? (i := 420) rfl)) rfl
theorem ki_netOfCell : Cond.instanceMethod y_netOfCell ∈ wG := in_wG (List.mem_append_right _ (List.mem_of_getElem? (i := 419) (by decide +kernel))) rfl
theorem ks_netOfCell : Cond.selects "MoveRows" y_netOfCell y_netOfCell ∈ wG := in_wG (by decide +kernel) rfl
set_option maxRecDepth 20000 in
theorem kc_sumOfAllLots : Cond.code y_sumOfAllLots b_sumOfAllLots 5 (some .long) ∈ wG := in_wG (List.mem_append_right _ (List.mem_of_getElem? (i := 402) rfl)) rfl
theorem ki_sumOfAllLots : Cond.instanceMethod y_sumOfAllLots ∈ wG := in_wG (List.mem_append_right _ (List.mem_of_getElem? (i := 401) (by decide +kernel))) rfl
theorem ks_sumOfAllLots : Cond.selects "MoveRows" y_sumOfAllLots y_sumOfAllLots ∈ wG := in_wG (by decide +kernel) rfl
set_option maxRecDepth 20000 in
theorem kc_cellOf : Cond.code y_cellOf b_cellOf 2 (some .int) ∈ wG := in_wG (List.mem_append_right _ (List.mem_of_getElem? (i := 246) rfl)) rfl
theorem ki_cellOf : Cond.static y_cellOf ∈ wG := in_wG (List.mem_append_right _ (List.mem_of_getElem? (i := 245) (by decide +kernel))) rfl
set_option maxRecDepth 20000 in
theorem kc_slotOf : Cond.code y_slotOf b_slotOf 2 (some .int) ∈ wG := in_wG (List.mem_append_right _ (List.mem_of_getElem? (i := 253) rfl)) rfl
theorem ki_slotOf : Cond.static y_slotOf ∈ wG := in_wG (List.mem_append_right _ (List.mem_of_getElem? (i := 252) (by decide +kernel))) rfl
set_option maxRecDepth 20000 in
theorem kc_freeOf : Cond.code y_freeOf b_freeOf 2 (some .long) ∈ wG := in_wG (List.mem_append_right _ (List.mem_of_getElem? (i := 296) rfl)) rfl
theorem ki_freeOf : Cond.instanceMethod y_freeOf ∈ wG := in_wG (List.mem_append_right _ (List.mem_of_getElem? (i := 295) (by decide +kernel))) rfl
theorem ks_freeOf : Cond.selects "MoveRows" y_freeOf y_freeOf ∈ wG := in_wG (by decide +kernel) rfl
set_option maxRecDepth 20000 in
theorem kc_clearNet : Cond.code y_clearNet b_clearNet 1 none ∈ wG := in_wG (List.mem_append_right _ (List.mem_of_getElem? (i := 281) rfl)) rfl
theorem ki_clearNet : Cond.instanceMethod y_clearNet ∈ wG := in_wG (List.mem_append_right _ (List.mem_of_getElem? (i := 280) (by decide +kernel))) rfl
theorem ks_clearNet : Cond.selects "MoveRows" y_clearNet y_clearNet ∈ wG := in_wG (by decide +kernel) rfl
set_option maxRecDepth 20000 in
theorem kc_addToNet : Cond.code y_addToNet b_addToNet 5 none ∈ wG := in_wG (List.mem_append_right _ (List.mem_of_getElem? (i := 288) rfl)) rfl
theorem ki_addToNet : Cond.instanceMethod y_addToNet ∈ wG := in_wG (List.mem_append_right _ (List.mem_of_getElem? (i := 287) (by decide +kernel))) rfl
theorem ks_addToNet : Cond.selects "MoveRows" y_addToNet y_addToNet ∈ wG := in_wG (by decide +kernel) rfl
set_option maxRecDepth 20000 in
theorem kc_isNetCovered : Cond.code y_isNetCovered b_isNetCovered 2 (some .boolean) ∈ wG := in_wG (List.mem_append_right _ (List.mem_of_getElem? (i := 292) rfl)) rfl
theorem ki_isNetCovered : Cond.instanceMethod y_isNetCovered ∈ wG := in_wG (List.mem_append_right _ (List.mem_of_getElem? (i := 291) (by decide +kernel))) rfl
theorem ks_isNetCovered : Cond.selects "MoveRows" y_isNetCovered y_isNetCovered ∈ wG := in_wG (by decide +kernel) rfl
set_option maxRecDepth 20000 in
theorem kc_changeHolds : Cond.code y_changeHolds b_changeHolds 4 none ∈ wG := in_wG (List.mem_append_right _ (List.mem_of_getElem? (i := 301) rfl)) rfl
theorem ki_changeHolds : Cond.instanceMethod y_changeHolds ∈ wG := in_wG (List.mem_append_right _ (List.mem_of_getElem? (i := 300) (by decide +kernel))) rfl
theorem ks_changeHolds : Cond.selects "MoveRows" y_changeHolds y_changeHolds ∈ wG := in_wG (by decide +kernel) rfl
set_option maxRecDepth 20000 in
theorem kc_addBatch : Cond.code y_addBatch b_addBatch 2 (some .int) ∈ wG := in_wG (List.mem_append_right _ (List.mem_of_getElem? (i := 167) rfl)) rfl
theorem ki_addBatch : Cond.instanceMethod y_addBatch ∈ wG := in_wG (List.mem_append_right _ (List.mem_of_getElem? (i := 166) (by decide +kernel))) rfl
theorem ks_addBatch : Cond.selects "MoveRows" y_addBatch y_addBatch ∈ wG := in_wG (by decide +kernel) rfl
set_option maxRecDepth 20000 in
theorem kc_addEntry : Cond.code y_addEntry b_addEntry 5 none ∈ wG := in_wG (List.mem_append_right _ (List.mem_of_getElem? (i := 250) rfl)) rfl
theorem ki_addEntry : Cond.instanceMethod y_addEntry ∈ wG := in_wG (List.mem_append_right _ (List.mem_of_getElem? (i := 249) (by decide +kernel))) rfl
theorem ks_addEntry : Cond.selects "MoveRows" y_addEntry y_addEntry ∈ wG := in_wG (by decide +kernel) rfl
set_option maxRecDepth 20000 in
theorem kc_postEntries : Cond.code y_postEntries b_postEntries 5 none ∈ wG := in_wG (List.mem_append_right _ (List.mem_of_getElem? (i := 341) rfl)) rfl
theorem ki_postEntries : Cond.instanceMethod y_postEntries ∈ wG := in_wG (List.mem_append_right _ (List.mem_of_getElem? (i := 340) (by decide +kernel))) rfl
theorem ks_postEntries : Cond.selects "MoveRows" y_postEntries y_postEntries ∈ wG := in_wG (by decide +kernel) rfl
set_option maxRecDepth 20000 in
theorem kc_postReversal : Cond.code y_postReversal b_postReversal 6 (some .int) ∈ wG := in_wG (List.mem_append_right _ (List.mem_of_getElem? (i := 354) rfl)) rfl
theorem ki_postReversal : Cond.instanceMethod y_postReversal ∈ wG := in_wG (List.mem_append_right _ (List.mem_of_getElem? (i := 353) (by decide +kernel))) rfl
theorem ks_postReversal : Cond.selects "MoveRows" y_postReversal y_postReversal ∈ wG := in_wG (by decide +kernel) rfl
set_option maxRecDepth 20000 in
theorem kc_isUndoable : Cond.code y_isUndoable b_isUndoable 3 (some .boolean) ∈ wG := in_wG (List.mem_append_right _ (List.mem_of_getElem? (i := 369) rfl)) rfl
theorem ki_isUndoable : Cond.instanceMethod y_isUndoable ∈ wG := in_wG (List.mem_append_right _ (List.mem_of_getElem? (i := 368) (by decide +kernel))) rfl
theorem ks_isUndoable : Cond.selects "MoveRows" y_isUndoable y_isUndoable ∈ wG := in_wG (by decide +kernel) rfl
set_option maxRecDepth 20000 in
theorem kc_countUndoable : Cond.code y_countUndoable b_countUndoable 4 (some .int) ∈ wG := in_wG (List.mem_append_right _ (List.mem_of_getElem? (i := 365) rfl)) rfl
theorem ki_countUndoable : Cond.instanceMethod y_countUndoable ∈ wG := in_wG (List.mem_append_right _ (List.mem_of_getElem? (i := 364) (by decide +kernel))) rfl
theorem ks_countUndoable : Cond.selects "MoveRows" y_countUndoable y_countUndoable ∈ wG := in_wG (by decide +kernel) rfl
set_option maxRecDepth 20000 in
theorem kc_isEnoughFreeToUndo : Cond.code y_isEnoughFreeToUndo b_isEnoughFreeToUndo 3 (some .boolean) ∈ wG := in_wG (List.mem_append_right _ (List.mem_of_getElem? (i := 374) rfl)) rfl
theorem ki_isEnoughFreeToUndo : Cond.instanceMethod y_isEnoughFreeToUndo ∈ wG := in_wG (List.mem_append_right _ (List.mem_of_getElem? (i := 373) (by decide +kernel))) rfl
theorem ks_isEnoughFreeToUndo : Cond.selects "MoveRows" y_isEnoughFreeToUndo y_isEnoughFreeToUndo ∈ wG := in_wG (by decide +kernel) rfl
set_option maxRecDepth 20000 in
theorem kc_findPostedSlot : Cond.code y_findPostedSlot b_findPostedSlot 8 (some .int) ∈ wG := in_wG (List.mem_append_right _ (List.mem_of_getElem? (i := 445) rfl)) rfl
theorem ki_findPostedSlot : Cond.instanceMethod y_findPostedSlot ∈ wG := in_wG (List.mem_append_right _ (List.mem_of_getElem? (i := 444) (by decide +kernel))) rfl
theorem ks_findPostedSlot : Cond.selects "MoveRows" y_findPostedSlot y_findPostedSlot ∈ wG := in_wG (by decide +kernel) rfl
set_option maxRecDepth 20000 in
theorem kc_countPostedEntries : Cond.code y_countPostedEntries b_countPostedEntries 3 (some .int) ∈ wG := in_wG (List.mem_append_right _ (List.mem_of_getElem? (i := 78) rfl)) rfl
theorem ki_countPostedEntries : Cond.instanceMethod y_countPostedEntries ∈ wG := in_wG (List.mem_append_right _ (List.mem_of_getElem? (i := 77) (by decide +kernel))) rfl
theorem ks_countPostedEntries : Cond.selects "MoveRows" y_countPostedEntries y_countPostedEntries ∈ wG := in_wG (by decide +kernel) rfl
set_option maxRecDepth 20000 in
theorem kc_countHeld : Cond.code y_countHeld b_countHeld 3 (some .int) ∈ wG := in_wG (List.mem_append_right _ (List.mem_of_getElem? (i := 82) rfl)) rfl
theorem ki_countHeld : Cond.instanceMethod y_countHeld ∈ wG := in_wG (List.mem_append_right _ (List.mem_of_getElem? (i := 81) (by decide +kernel))) rfl
theorem ks_countHeld : Cond.selects "MoveRows" y_countHeld y_countHeld ∈ wG := in_wG (by decide +kernel) rfl
set_option maxRecDepth 20000 in
theorem kc_m_init : Cond.code y_m_init b_m_init 1 none ∈ wG := in_wG (List.mem_append_right _ (List.mem_of_getElem? (i := 469) rfl)) rfl
theorem ki_m_init : Cond.instanceMethod y_m_init ∈ wG := in_wG (List.mem_append_right _ (List.mem_of_getElem? (i := 468) (by decide +kernel))) rfl
set_option maxRecDepth 20000 in
theorem kc_m_thrown : Cond.code y_m_thrown b_m_thrown 1 (some .int) ∈ wG := in_wG (List.mem_append_right _ (List.mem_of_getElem? (i := 517) rfl)) rfl
theorem ki_m_thrown : Cond.instanceMethod y_m_thrown ∈ wG := in_wG (List.mem_append_right _ (List.mem_of_getElem? (i := 515) (by decide +kernel))) rfl
theorem ks_m_thrown : Cond.selects "MoveRowsModel" y_m_thrown y_m_thrown ∈ wG := in_wG (by decide +kernel) rfl
set_option maxRecDepth 20000 in
theorem kc_m_in : Cond.code y_m_in b_m_in 3 (some .boolean) ∈ wG := in_wG (List.mem_append_right _ (List.mem_of_getElem? (i := 536) rfl)) rfl
theorem ki_m_in : Cond.static y_m_in ∈ wG := in_wG (List.mem_append_right _ (List.mem_of_getElem? (i := 535) (by decide +kernel))) rfl
set_option maxRecDepth 20000 in
theorem kc_m_isBatch : Cond.code y_m_isBatch b_m_isBatch 2 (some .boolean) ∈ wG := in_wG (List.mem_append_right _ (List.mem_of_getElem? (i := 533) rfl)) rfl
theorem ki_m_isBatch : Cond.instanceMethod y_m_isBatch ∈ wG := in_wG (List.mem_append_right _ (List.mem_of_getElem? (i := 532) (by decide +kernel))) rfl
theorem ks_m_isBatch : Cond.selects "MoveRowsModel" y_m_isBatch y_m_isBatch ∈ wG := in_wG (by decide +kernel) rfl
set_option maxRecDepth 20000 in
theorem kc_m_batch : Cond.code y_m_batch b_m_batch 1 (some .int) ∈ wG := in_wG (List.mem_append_right _ (List.mem_of_getElem? (i := 521) rfl)) rfl
theorem ki_m_batch : Cond.instanceMethod y_m_batch ∈ wG := in_wG (List.mem_append_right _ (List.mem_of_getElem? (i := 519) (by decide +kernel))) rfl
theorem ks_m_batch : Cond.selects "MoveRowsModel" y_m_batch y_m_batch ∈ wG := in_wG (by decide +kernel) rfl
set_option maxRecDepth 20000 in
theorem kc_m_open : Cond.code y_m_open b_m_open 2 (some .int) ∈ wG := in_wG (List.mem_append_right _ (List.mem_of_getElem? (i := 525) rfl)) rfl
theorem ki_m_open : Cond.instanceMethod y_m_open ∈ wG := in_wG (List.mem_append_right _ (List.mem_of_getElem? (i := 524) (by decide +kernel))) rfl
theorem ks_m_open : Cond.selects "MoveRowsModel" y_m_open y_m_open ∈ wG := in_wG (by decide +kernel) rfl
set_option maxRecDepth 20000 in
theorem kc_m_entry : Cond.code y_m_entry b_m_entry 5 (some .int) ∈ wG := in_wG (List.mem_append_right _ (List.mem_of_getElem? (i := 529) rfl)) rfl
theorem ki_m_entry : Cond.instanceMethod y_m_entry ∈ wG := in_wG (List.mem_append_right _ (List.mem_of_getElem? (i := 527) (by decide +kernel))) rfl
theorem ks_m_entry : Cond.selects "MoveRowsModel" y_m_entry y_m_entry ∈ wG := in_wG (by decide +kernel) rfl
set_option maxRecDepth 20000 in
theorem kc_m_put : Cond.code y_m_put b_m_put 6 none ∈ wG := in_wG (List.mem_append_right _ (List.mem_of_getElem? (i := 542) rfl)) rfl
theorem ki_m_put : Cond.instanceMethod y_m_put ∈ wG := in_wG (List.mem_append_right _ (List.mem_of_getElem? (i := 541) (by decide +kernel))) rfl
theorem ks_m_put : Cond.selects "MoveRowsModel" y_m_put y_m_put ∈ wG := in_wG (by decide +kernel) rfl
set_option maxRecDepth 20000 in
theorem kc_m_net : Cond.code y_m_net b_m_net 8 (some .long) ∈ wG := in_wG (List.mem_append_right _ (List.mem_of_getElem? (i := 554) rfl)) rfl
theorem ki_m_net : Cond.instanceMethod y_m_net ∈ wG := in_wG (List.mem_append_right _ (List.mem_of_getElem? (i := 553) (by decide +kernel))) rfl
theorem ks_m_net : Cond.selects "MoveRowsModel" y_m_net y_m_net ∈ wG := in_wG (by decide +kernel) rfl
set_option maxRecDepth 20000 in
theorem kc_m_isSound : Cond.code y_m_isSound b_m_isSound 4 (some .boolean) ∈ wG := in_wG (List.mem_append_right _ (List.mem_of_getElem? (i := 550) rfl)) rfl
theorem ki_m_isSound : Cond.instanceMethod y_m_isSound ∈ wG := in_wG (List.mem_append_right _ (List.mem_of_getElem? (i := 549) (by decide +kernel))) rfl
theorem ks_m_isSound : Cond.selects "MoveRowsModel" y_m_isSound y_m_isSound ∈ wG := in_wG (by decide +kernel) rfl
set_option maxRecDepth 20000 in
theorem kc_m_stockAt : Cond.code y_m_stockAt b_m_stockAt 7 (some .long) ∈ wG := in_wG (List.mem_append_right _ (List.mem_of_getElem? (i := 562) rfl)) rfl
theorem ki_m_stockAt : Cond.instanceMethod y_m_stockAt ∈ wG := in_wG (List.mem_append_right _ (List.mem_of_getElem? (i := 561) (by decide +kernel))) rfl
theorem ks_m_stockAt : Cond.selects "MoveRowsModel" y_m_stockAt y_m_stockAt ∈ wG := in_wG (by decide +kernel) rfl
set_option maxRecDepth 20000 in
theorem kc_m_held : Cond.code y_m_held b_m_held 9 (some .long) ∈ wG := in_wG (List.mem_append_right _ (List.mem_of_getElem? (i := 566) rfl)) rfl
theorem ki_m_held : Cond.instanceMethod y_m_held ∈ wG := in_wG (List.mem_append_right _ (List.mem_of_getElem? (i := 565) (by decide +kernel))) rfl
theorem ks_m_held : Cond.selects "MoveRowsModel" y_m_held y_m_held ∈ wG := in_wG (by decide +kernel) rfl
set_option maxRecDepth 20000 in
theorem kc_m_isCovered : Cond.code y_m_isCovered b_m_isCovered 8 (some .boolean) ∈ wG := in_wG (List.mem_append_right _ (List.mem_of_getElem? (i := 558) rfl)) rfl
theorem ki_m_isCovered : Cond.instanceMethod y_m_isCovered ∈ wG := in_wG (List.mem_append_right _ (List.mem_of_getElem? (i := 557) (by decide +kernel))) rfl
theorem ks_m_isCovered : Cond.selects "MoveRowsModel" y_m_isCovered y_m_isCovered ∈ wG := in_wG (by decide +kernel) rfl
set_option maxRecDepth 20000 in
theorem kc_m_hold : Cond.code y_m_hold b_m_hold 2 none ∈ wG := in_wG (List.mem_append_right _ (List.mem_of_getElem? (i := 546) rfl)) rfl
theorem ki_m_hold : Cond.instanceMethod y_m_hold ∈ wG := in_wG (List.mem_append_right _ (List.mem_of_getElem? (i := 544) (by decide +kernel))) rfl
theorem ks_m_hold : Cond.selects "MoveRowsModel" y_m_hold y_m_hold ∈ wG := in_wG (by decide +kernel) rfl
set_option maxRecDepth 20000 in
theorem kc_m_free : Cond.code y_m_free b_m_free 2 none ∈ wG := in_wG (List.mem_append_right _ (List.mem_of_getElem? (i := 570) rfl)) rfl
theorem ki_m_free : Cond.instanceMethod y_m_free ∈ wG := in_wG (List.mem_append_right _ (List.mem_of_getElem? (i := 568) (by decide +kernel))) rfl
theorem ks_m_free : Cond.selects "MoveRowsModel" y_m_free y_m_free ∈ wG := in_wG (by decide +kernel) rfl
set_option maxRecDepth 20000 in
theorem kc_m_drop : Cond.code y_m_drop b_m_drop 2 none ∈ wG := in_wG (List.mem_append_right _ (List.mem_of_getElem? (i := 574) rfl)) rfl
theorem ki_m_drop : Cond.instanceMethod y_m_drop ∈ wG := in_wG (List.mem_append_right _ (List.mem_of_getElem? (i := 572) (by decide +kernel))) rfl
theorem ks_m_drop : Cond.selects "MoveRowsModel" y_m_drop y_m_drop ∈ wG := in_wG (by decide +kernel) rfl
set_option maxRecDepth 20000 in
theorem kc_m_enter : Cond.code y_m_enter b_m_enter 3 none ∈ wG := in_wG (List.mem_append_right _ (List.mem_of_getElem? (i := 582) rfl)) rfl
theorem ki_m_enter : Cond.instanceMethod y_m_enter ∈ wG := in_wG (List.mem_append_right _ (List.mem_of_getElem? (i := 581) (by decide +kernel))) rfl
theorem ks_m_enter : Cond.selects "MoveRowsModel" y_m_enter y_m_enter ∈ wG := in_wG (by decide +kernel) rfl
set_option maxRecDepth 20000 in
theorem kc_m_post : Cond.code y_m_post b_m_post 3 none ∈ wG := in_wG (List.mem_append_right _ (List.mem_of_getElem? (i := 578) rfl)) rfl
theorem ki_m_post : Cond.instanceMethod y_m_post ∈ wG := in_wG (List.mem_append_right _ (List.mem_of_getElem? (i := 576) (by decide +kernel))) rfl
theorem ks_m_post : Cond.selects "MoveRowsModel" y_m_post y_m_post ∈ wG := in_wG (by decide +kernel) rfl
set_option maxRecDepth 20000 in
theorem kc_m_reversed : Cond.code y_m_reversed b_m_reversed 5 (some .boolean) ∈ wG := in_wG (List.mem_append_right _ (List.mem_of_getElem? (i := 590) rfl)) rfl
theorem ki_m_reversed : Cond.instanceMethod y_m_reversed ∈ wG := in_wG (List.mem_append_right _ (List.mem_of_getElem? (i := 589) (by decide +kernel))) rfl
theorem ks_m_reversed : Cond.selects "MoveRowsModel" y_m_reversed y_m_reversed ∈ wG := in_wG (by decide +kernel) rfl
set_option maxRecDepth 20000 in
theorem kc_m_reverse : Cond.code y_m_reverse b_m_reverse 3 (some .int) ∈ wG := in_wG (List.mem_append_right _ (List.mem_of_getElem? (i := 586) rfl)) rfl
theorem ki_m_reverse : Cond.instanceMethod y_m_reverse ∈ wG := in_wG (List.mem_append_right _ (List.mem_of_getElem? (i := 584) (by decide +kernel))) rfl
theorem ks_m_reverse : Cond.selects "MoveRowsModel" y_m_reverse y_m_reverse ∈ wG := in_wG (by decide +kernel) rfl
set_option maxRecDepth 20000 in
theorem kc_m_undo : Cond.code y_m_undo b_m_undo 5 (some .int) ∈ wG := in_wG (List.mem_append_right _ (List.mem_of_getElem? (i := 594) rfl)) rfl
theorem ki_m_undo : Cond.instanceMethod y_m_undo ∈ wG := in_wG (List.mem_append_right _ (List.mem_of_getElem? (i := 592) (by decide +kernel))) rfl
theorem ks_m_undo : Cond.selects "MoveRowsModel" y_m_undo y_m_undo ∈ wG := in_wG (by decide +kernel) rfl
set_option maxRecDepth 20000 in
theorem kc_m_close : Cond.code y_m_close b_m_close 3 (some .int) ∈ wG := in_wG (List.mem_append_right _ (List.mem_of_getElem? (i := 598) rfl)) rfl
theorem ki_m_close : Cond.instanceMethod y_m_close ∈ wG := in_wG (List.mem_append_right _ (List.mem_of_getElem? (i := 596) (by decide +kernel))) rfl
theorem ks_m_close : Cond.selects "MoveRowsModel" y_m_close y_m_close ∈ wG := in_wG (by decide +kernel) rfl
set_option maxRecDepth 20000 in
theorem kc_m_carry : Cond.code y_m_carry b_m_carry 6 (some .long) ∈ wG := in_wG (List.mem_append_right _ (List.mem_of_getElem? (i := 602) rfl)) rfl
theorem ki_m_carry : Cond.instanceMethod y_m_carry ∈ wG := in_wG (List.mem_append_right _ (List.mem_of_getElem? (i := 600) (by decide +kernel))) rfl
theorem ks_m_carry : Cond.selects "MoveRowsModel" y_m_carry y_m_carry ∈ wG := in_wG (by decide +kernel) rfl
set_option maxRecDepth 20000 in
theorem kc_m_stock : Cond.code y_m_stock b_m_stock 3 (some .long) ∈ wG := in_wG (List.mem_append_right _ (List.mem_of_getElem? (i := 606) rfl)) rfl
theorem ki_m_stock : Cond.instanceMethod y_m_stock ∈ wG := in_wG (List.mem_append_right _ (List.mem_of_getElem? (i := 604) (by decide +kernel))) rfl
theorem ks_m_stock : Cond.selects "MoveRowsModel" y_m_stock y_m_stock ∈ wG := in_wG (by decide +kernel) rfl
set_option maxRecDepth 20000 in
theorem kc_m_upTo : Cond.code y_m_upTo b_m_upTo 4 (some .long) ∈ wG := in_wG (List.mem_append_right _ (List.mem_of_getElem? (i := 610) rfl)) rfl
theorem ki_m_upTo : Cond.instanceMethod y_m_upTo ∈ wG := in_wG (List.mem_append_right _ (List.mem_of_getElem? (i := 608) (by decide +kernel))) rfl
theorem ks_m_upTo : Cond.selects "MoveRowsModel" y_m_upTo y_m_upTo ∈ wG := in_wG (by decide +kernel) rfl
set_option maxRecDepth 20000 in
theorem kc_m_available : Cond.code y_m_available b_m_available 3 (some .long) ∈ wG := in_wG (List.mem_append_right _ (List.mem_of_getElem? (i := 614) rfl)) rfl
theorem ki_m_available : Cond.instanceMethod y_m_available ∈ wG := in_wG (List.mem_append_right _ (List.mem_of_getElem? (i := 612) (by decide +kernel))) rfl
theorem ks_m_available : Cond.selects "MoveRowsModel" y_m_available y_m_available ∈ wG := in_wG (by decide +kernel) rfl
set_option maxRecDepth 20000 in
theorem kc_m_at : Cond.code y_m_at b_m_at 6 (some .long) ∈ wG := in_wG (List.mem_append_right _ (List.mem_of_getElem? (i := 618) rfl)) rfl
theorem ki_m_at : Cond.instanceMethod y_m_at ∈ wG := in_wG (List.mem_append_right _ (List.mem_of_getElem? (i := 616) (by decide +kernel))) rfl
theorem ks_m_at : Cond.selects "MoveRowsModel" y_m_at y_m_at ∈ wG := in_wG (by decide +kernel) rfl
set_option maxRecDepth 20000 in
theorem kc_m_row : Cond.code y_m_row b_m_row 8 (some .int) ∈ wG := in_wG (List.mem_append_right _ (List.mem_of_getElem? (i := 622) rfl)) rfl
theorem ki_m_row : Cond.instanceMethod y_m_row ∈ wG := in_wG (List.mem_append_right _ (List.mem_of_getElem? (i := 620) (by decide +kernel))) rfl
theorem ks_m_row : Cond.selects "MoveRowsModel" y_m_row y_m_row ∈ wG := in_wG (by decide +kernel) rfl
set_option maxRecDepth 20000 in
theorem kc_m_told : Cond.code y_m_told b_m_told 3 (some .int) ∈ wG := in_wG (List.mem_append_right _ (List.mem_of_getElem? (i := 626) rfl)) rfl
theorem ki_m_told : Cond.instanceMethod y_m_told ∈ wG := in_wG (List.mem_append_right _ (List.mem_of_getElem? (i := 624) (by decide +kernel))) rfl
theorem ks_m_told : Cond.selects "MoveRowsModel" y_m_told y_m_told ∈ wG := in_wG (by decide +kernel) rfl
set_option maxRecDepth 20000 in
theorem kc_m_packed : Cond.code y_m_packed b_m_packed 4 (some .long) ∈ wG := in_wG (List.mem_append_right _ (List.mem_of_getElem? (i := 630) rfl)) rfl
theorem ki_m_packed : Cond.instanceMethod y_m_packed ∈ wG := in_wG (List.mem_append_right _ (List.mem_of_getElem? (i := 628) (by decide +kernel))) rfl
theorem ks_m_packed : Cond.selects "MoveRowsModel" y_m_packed y_m_packed ∈ wG := in_wG (by decide +kernel) rfl
set_option maxRecDepth 20000 in
theorem kc_m_count : Cond.code y_m_count b_m_count 4 (some .int) ∈ wG := in_wG (List.mem_append_right _ (List.mem_of_getElem? (i := 635) rfl)) rfl
theorem ki_m_count : Cond.instanceMethod y_m_count ∈ wG := in_wG (List.mem_append_right _ (List.mem_of_getElem? (i := 633) (by decide +kernel))) rfl
theorem ks_m_count : Cond.selects "MoveRowsModel" y_m_count y_m_count ∈ wG := in_wG (by decide +kernel) rfl
set_option maxRecDepth 20000 in
theorem kc_w_batch : Cond.codeWith y_w_batch b_w_batch 3 (some .int) [(0, 8, 11, 13)] ∈ wG := in_wG (List.mem_append_right _ (List.mem_of_getElem? (i := 85) rfl)) rfl
theorem ki_w_batch : Cond.static y_w_batch ∈ wG := in_wG (List.mem_append_right _ (List.mem_of_getElem? (i := 84) (by decide +kernel))) rfl
set_option maxRecDepth 20000 in
theorem kc_w_entry : Cond.codeWith y_w_entry b_w_entry 7 (some .int) [(0, 14, 17, 19), (0, 14, 21, 21), (0, 14, 25, 23), (0, 14, 29, 13)] ∈ wG := in_wG (List.mem_append_right _ (List.mem_of_getElem? (i := 170) rfl)) rfl
theorem ki_w_entry : Cond.static y_w_entry ∈ wG := in_wG (List.mem_append_right _ (List.mem_of_getElem? (i := 169) (by decide +kernel))) rfl
set_option maxRecDepth 20000 in
theorem kc_w_hold : Cond.codeWith y_w_hold b_w_hold 3 (some .int) [(0, 5, 8, 19), (0, 5, 11, 23), (0, 5, 14, 13)] ∈ wG := in_wG (List.mem_append_right _ (List.mem_of_getElem? (i := 256) rfl)) rfl
theorem ki_w_hold : Cond.static y_w_hold ∈ wG := in_wG (List.mem_append_right _ (List.mem_of_getElem? (i := 255) (by decide +kernel))) rfl
set_option maxRecDepth 20000 in
theorem kc_w_free : Cond.codeWith y_w_free b_w_free 3 (some .int) [(0, 5, 8, 19), (0, 5, 11, 23)] ∈ wG := in_wG (List.mem_append_right _ (List.mem_of_getElem? (i := 304) rfl)) rfl
theorem ki_w_free : Cond.static y_w_free ∈ wG := in_wG (List.mem_append_right _ (List.mem_of_getElem? (i := 303) (by decide +kernel))) rfl
set_option maxRecDepth 20000 in
theorem kc_w_drop : Cond.codeWith y_w_drop b_w_drop 3 (some .int) [(0, 5, 8, 19), (0, 5, 11, 23)] ∈ wG := in_wG (List.mem_append_right _ (List.mem_of_getElem? (i := 312) rfl)) rfl
theorem ki_w_drop : Cond.static y_w_drop ∈ wG := in_wG (List.mem_append_right _ (List.mem_of_getElem? (i := 311) (by decide +kernel))) rfl
set_option maxRecDepth 20000 in
theorem kc_w_post : Cond.codeWith y_w_post b_w_post 4 (some .int) [(0, 6, 9, 19), (0, 6, 12, 21), (0, 6, 15, 23), (0, 6, 18, 13)] ∈ wG := in_wG (List.mem_append_right _ (List.mem_of_getElem? (i := 324) rfl)) rfl
theorem ki_w_post : Cond.static y_w_post ∈ wG := in_wG (List.mem_append_right _ (List.mem_of_getElem? (i := 323) (by decide +kernel))) rfl
set_option maxRecDepth 20000 in
theorem kc_w_reverse : Cond.codeWith y_w_reverse b_w_reverse 5 (some .int) [(0, 10, 13, 19), (0, 10, 17, 21), (0, 10, 21, 23), (0, 10, 25, 13)] ∈ wG := in_wG (List.mem_append_right _ (List.mem_of_getElem? (i := 344) rfl)) rfl
theorem ki_w_reverse : Cond.static y_w_reverse ∈ wG := in_wG (List.mem_append_right _ (List.mem_of_getElem? (i := 343) (by decide +kernel))) rfl
set_option maxRecDepth 20000 in
theorem kc_w_undo : Cond.codeWith y_w_undo b_w_undo 4 (some .int) [(0, 9, 12, 21), (0, 9, 15, 23), (0, 9, 18, 13)] ∈ wG := in_wG (List.mem_append_right _ (List.mem_of_getElem? (i := 357) rfl)) rfl
theorem ki_w_undo : Cond.static y_w_undo ∈ wG := in_wG (List.mem_append_right _ (List.mem_of_getElem? (i := 356) (by decide +kernel))) rfl
set_option maxRecDepth 20000 in
theorem kc_w_close : Cond.codeWith y_w_close b_w_close 4 (some .int) [(0, 9, 12, 21)] ∈ wG := in_wG (List.mem_append_right _ (List.mem_of_getElem? (i := 378) rfl)) rfl
theorem ki_w_close : Cond.static y_w_close ∈ wG := in_wG (List.mem_append_right _ (List.mem_of_getElem? (i := 377) (by decide +kernel))) rfl
set_option maxRecDepth 20000 in
theorem kc_w_carry : Cond.codeWith y_w_carry b_w_carry 5 (some .int) [(0, 9, 12, 21), (0, 9, 16, 23)] ∈ wG := in_wG (List.mem_append_right _ (List.mem_of_getElem? (i := 388) rfl)) rfl
theorem ki_w_carry : Cond.static y_w_carry ∈ wG := in_wG (List.mem_append_right _ (List.mem_of_getElem? (i := 387) (by decide +kernel))) rfl
set_option maxRecDepth 20000 in
theorem kc_w_stock : Cond.codeWith y_w_stock b_w_stock 5 (some .int) [(0, 9, 12, 21)] ∈ wG := in_wG (List.mem_append_right _ (List.mem_of_getElem? (i := 405) rfl)) rfl
theorem ki_w_stock : Cond.static y_w_stock ∈ wG := in_wG (List.mem_append_right _ (List.mem_of_getElem? (i := 404) (by decide +kernel))) rfl
set_option maxRecDepth 20000 in
theorem kc_w_upTo : Cond.codeWith y_w_upTo b_w_upTo 6 (some .int) [(0, 11, 14, 21)] ∈ wG := in_wG (List.mem_append_right _ (List.mem_of_getElem? (i := 412) rfl)) rfl
theorem ki_w_upTo : Cond.static y_w_upTo ∈ wG := in_wG (List.mem_append_right _ (List.mem_of_getElem? (i := 411) (by decide +kernel))) rfl
set_option maxRecDepth 20000 in
theorem kc_w_available : Cond.codeWith y_w_available b_w_available 5 (some .int) [(0, 9, 12, 21)] ∈ wG := in_wG (List.mem_append_right _ (List.mem_of_getElem? (i := 423) rfl)) rfl
theorem ki_w_available : Cond.static y_w_available ∈ wG := in_wG (List.mem_append_right _ (List.mem_of_getElem? (i := 422) (by decide +kernel))) rfl
set_option maxRecDepth 20000 in
theorem kc_w_at : Cond.codeWith y_w_at b_w_at 5 (some .int) [(0, 9, 12, 21)] ∈ wG := in_wG (List.mem_append_right _ (List.mem_of_getElem? (i := 430) rfl)) rfl
theorem ki_w_at : Cond.static y_w_at ∈ wG := in_wG (List.mem_append_right _ (List.mem_of_getElem? (i := 429) (by decide +kernel))) rfl
set_option maxRecDepth 20000 in
theorem kc_w_row : Cond.codeWith y_w_row b_w_row 6 (some .int) [(0, 12, 15, 19), (0, 12, 19, 21)] ∈ wG := in_wG (List.mem_append_right _ (List.mem_of_getElem? (i := 437) rfl)) rfl
theorem ki_w_row : Cond.static y_w_row ∈ wG := in_wG (List.mem_append_right _ (List.mem_of_getElem? (i := 436) (by decide +kernel))) rfl
set_option maxRecDepth 20000 in
theorem kc_w_told : Cond.codeWith y_w_told b_w_told 5 (some .int) [(0, 10, 13, 19), (0, 10, 17, 21)] ∈ wG := in_wG (List.mem_append_right _ (List.mem_of_getElem? (i := 450) rfl)) rfl
theorem ki_w_told : Cond.static y_w_told ∈ wG := in_wG (List.mem_append_right _ (List.mem_of_getElem? (i := 449) (by decide +kernel))) rfl
set_option maxRecDepth 20000 in
theorem kc_w_packed : Cond.codeWith y_w_packed b_w_packed 5 (some .int) [(0, 9, 12, 19)] ∈ wG := in_wG (List.mem_append_right _ (List.mem_of_getElem? (i := 458) rfl)) rfl
theorem ki_w_packed : Cond.static y_w_packed ∈ wG := in_wG (List.mem_append_right _ (List.mem_of_getElem? (i := 457) (by decide +kernel))) rfl
theorem kn_MoveRows : Cond.initialized "MoveRows" ∈ wG := in_wG (List.mem_append_right _ (List.mem_of_getElem? (i := 1) (by decide +kernel))) rfl
theorem kn_MoveRowsModel : Cond.initialized "MoveRowsModel" ∈ wG := in_wG (List.mem_append_right _ (List.mem_of_getElem? (i := 3) (by decide +kernel))) rfl
theorem kn_MoveRowsLaw : Cond.initialized "MoveRowsLaw" ∈ wG := in_wG (List.mem_append_right _ (List.mem_of_getElem? (i := 0) (by decide +kernel))) rfl
theorem kn_Arrays : Cond.initialized "java/util/Arrays" ∈ wG := in_wG (List.mem_append_right _ (List.mem_of_getElem? (i := 2) (by decide +kernel))) rfl
theorem kn_Math : Cond.initialized "java/lang/Math" ∈ wG := in_wG (List.mem_append_right _ (List.mem_of_getElem? (i := 11) (by decide +kernel))) rfl
set_option maxRecDepth 20000 in
theorem kc_fillI : Cond.code y_fillI b_fillI 4 none ∈ wG := in_wG (List.mem_append_right _ (List.mem_of_getElem? (i := 22) rfl)) rfl
theorem ki_fillI : Cond.static y_fillI ∈ wG := in_wG (List.mem_append_right _ (List.mem_of_getElem? (i := 21) (by decide +kernel))) rfl
set_option maxRecDepth 20000 in
theorem kc_fillL : Cond.code y_fillL b_fillL 5 none ∈ wG := in_wG (List.mem_append_right _ (List.mem_of_getElem? (i := 284) rfl)) rfl
theorem ki_fillL : Cond.static y_fillL ∈ wG := in_wG (List.mem_append_right _ (List.mem_of_getElem? (i := 283) (by decide +kernel))) rfl
theorem kl_57 : Cond.methodLink "MoveRows" 57 y_fillI ∈ wG := in_wG (List.mem_append_right _ (List.mem_of_getElem? (i := 20) (by decide +kernel))) rfl
theorem gk_fillI : ∀ w ∈ ([.methodLink "MoveRows" 57 y_fillI, .static y_fillI, .initialized y_fillI.cls, .code y_fillI b_fillI 4 none] : List Cond), w ∈ wG := List.forall_mem_cons.mpr ⟨kl_57, List.forall_mem_cons.mpr ⟨ki_fillI, List.forall_mem_cons.mpr ⟨kn_Arrays, List.forall_mem_cons.mpr ⟨kc_fillI, fun _ h => nomatch h⟩⟩⟩⟩
theorem kl_63 : Cond.methodLink "MoveRows" 63 y_hasRoomFor ∈ wG := in_wG (List.mem_append_right _ (List.mem_of_getElem? (i := 91) (by decide +kernel))) rfl
theorem gk_hasRoomFor : ∀ w ∈ ([.methodLink "MoveRows" 63 y_hasRoomFor, .instanceMethod y_hasRoomFor, .selects "MoveRows" y_hasRoomFor y_hasRoomFor, .initialized "MoveRows", .code y_hasRoomFor b_hasRoomFor 2 (some .boolean)] : List Cond), w ∈ wG := List.forall_mem_cons.mpr ⟨kl_63, List.forall_mem_cons.mpr ⟨ki_hasRoomFor, List.forall_mem_cons.mpr ⟨ks_hasRoomFor, List.forall_mem_cons.mpr ⟨kn_MoveRows, List.forall_mem_cons.mpr ⟨kc_hasRoomFor, fun _ h => nomatch h⟩⟩⟩⟩⟩
theorem kl_74 : Cond.methodLink "MoveRows" 74 y_addBatch ∈ wG := in_wG (List.mem_append_right _ (List.mem_of_getElem? (i := 164) (by decide +kernel))) rfl
theorem gk_addBatch : ∀ w ∈ ([.methodLink "MoveRows" 74 y_addBatch, .instanceMethod y_addBatch, .selects "MoveRows" y_addBatch y_addBatch, .initialized "MoveRows", .code y_addBatch b_addBatch 2 (some .int)] : List Cond), w ∈ wG := List.forall_mem_cons.mpr ⟨kl_74, List.forall_mem_cons.mpr ⟨ki_addBatch, List.forall_mem_cons.mpr ⟨ks_addBatch, List.forall_mem_cons.mpr ⟨kn_MoveRows, List.forall_mem_cons.mpr ⟨kc_addBatch, fun _ h => nomatch h⟩⟩⟩⟩⟩
theorem kl_78 : Cond.methodLink "MoveRows" 78 y_checkBatch ∈ wG := in_wG (List.mem_append_right _ (List.mem_of_getElem? (i := 178) (by decide +kernel))) rfl
theorem gk_checkBatch : ∀ w ∈ ([.methodLink "MoveRows" 78 y_checkBatch, .instanceMethod y_checkBatch, .selects "MoveRows" y_checkBatch y_checkBatch, .initialized "MoveRows", .code y_checkBatch b_checkBatch 2 none] : List Cond), w ∈ wG := List.forall_mem_cons.mpr ⟨kl_78, List.forall_mem_cons.mpr ⟨ki_checkBatch, List.forall_mem_cons.mpr ⟨ks_checkBatch, List.forall_mem_cons.mpr ⟨kn_MoveRows, List.forall_mem_cons.mpr ⟨kc_checkBatch, fun _ h => nomatch h⟩⟩⟩⟩⟩
theorem kl_82 : Cond.methodLink "MoveRows" 82 y_checkAccount ∈ wG := in_wG (List.mem_append_right _ (List.mem_of_getElem? (i := 198) (by decide +kernel))) rfl
theorem gk_checkAccount : ∀ w ∈ ([.methodLink "MoveRows" 82 y_checkAccount, .static y_checkAccount, .initialized "MoveRows", .code y_checkAccount b_checkAccount 1 none] : List Cond), w ∈ wG := List.forall_mem_cons.mpr ⟨kl_82, List.forall_mem_cons.mpr ⟨ki_checkAccount, List.forall_mem_cons.mpr ⟨kn_MoveRows, List.forall_mem_cons.mpr ⟨kc_checkAccount, fun _ h => nomatch h⟩⟩⟩⟩
theorem kl_85 : Cond.methodLink "MoveRows" 85 y_checkLot ∈ wG := in_wG (List.mem_append_right _ (List.mem_of_getElem? (i := 217) (by decide +kernel))) rfl
theorem gk_checkLot : ∀ w ∈ ([.methodLink "MoveRows" 85 y_checkLot, .static y_checkLot, .initialized "MoveRows", .code y_checkLot b_checkLot 1 none] : List Cond), w ∈ wG := List.forall_mem_cons.mpr ⟨kl_85, List.forall_mem_cons.mpr ⟨ki_checkLot, List.forall_mem_cons.mpr ⟨kn_MoveRows, List.forall_mem_cons.mpr ⟨kc_checkLot, fun _ h => nomatch h⟩⟩⟩⟩
theorem kl_88 : Cond.methodLink "MoveRows" 88 y_checkAmount ∈ wG := in_wG (List.mem_append_right _ (List.mem_of_getElem? (i := 221) (by decide +kernel))) rfl
theorem gk_checkAmount : ∀ w ∈ ([.methodLink "MoveRows" 88 y_checkAmount, .static y_checkAmount, .initialized "MoveRows", .code y_checkAmount b_checkAmount 1 none] : List Cond), w ∈ wG := List.forall_mem_cons.mpr ⟨kl_88, List.forall_mem_cons.mpr ⟨ki_checkAmount, List.forall_mem_cons.mpr ⟨kn_MoveRows, List.forall_mem_cons.mpr ⟨kc_checkAmount, fun _ h => nomatch h⟩⟩⟩⟩
theorem kl_98 : Cond.methodLink "MoveRows" 98 y_cellOf ∈ wG := in_wG (List.mem_append_right _ (List.mem_of_getElem? (i := 244) (by decide +kernel))) rfl
theorem gk_cellOf : ∀ w ∈ ([.methodLink "MoveRows" 98 y_cellOf, .static y_cellOf, .initialized "MoveRows", .code y_cellOf b_cellOf 2 (some .int)] : List Cond), w ∈ wG := List.forall_mem_cons.mpr ⟨kl_98, List.forall_mem_cons.mpr ⟨ki_cellOf, List.forall_mem_cons.mpr ⟨kn_MoveRows, List.forall_mem_cons.mpr ⟨kc_cellOf, fun _ h => nomatch h⟩⟩⟩⟩
theorem kl_102 : Cond.methodLink "MoveRows" 102 y_addEntry ∈ wG := in_wG (List.mem_append_right _ (List.mem_of_getElem? (i := 247) (by decide +kernel))) rfl
theorem gk_addEntry : ∀ w ∈ ([.methodLink "MoveRows" 102 y_addEntry, .instanceMethod y_addEntry, .selects "MoveRows" y_addEntry y_addEntry, .initialized "MoveRows", .code y_addEntry b_addEntry 5 none] : List Cond), w ∈ wG := List.forall_mem_cons.mpr ⟨kl_102, List.forall_mem_cons.mpr ⟨ki_addEntry, List.forall_mem_cons.mpr ⟨ks_addEntry, List.forall_mem_cons.mpr ⟨kn_MoveRows, List.forall_mem_cons.mpr ⟨kc_addEntry, fun _ h => nomatch h⟩⟩⟩⟩⟩
theorem kl_106 : Cond.methodLink "MoveRows" 106 y_checkSound ∈ wG := in_wG (List.mem_append_right _ (List.mem_of_getElem? (i := 261) (by decide +kernel))) rfl
theorem gk_checkSound : ∀ w ∈ ([.methodLink "MoveRows" 106 y_checkSound, .instanceMethod y_checkSound, .selects "MoveRows" y_checkSound y_checkSound, .initialized "MoveRows", .code y_checkSound b_checkSound 2 none] : List Cond), w ∈ wG := List.forall_mem_cons.mpr ⟨kl_106, List.forall_mem_cons.mpr ⟨ki_checkSound, List.forall_mem_cons.mpr ⟨ks_checkSound, List.forall_mem_cons.mpr ⟨kn_MoveRows, List.forall_mem_cons.mpr ⟨kc_checkSound, fun _ h => nomatch h⟩⟩⟩⟩⟩
theorem kl_109 : Cond.methodLink "MoveRows" 109 y_checkEnoughFree ∈ wG := in_wG (List.mem_append_right _ (List.mem_of_getElem? (i := 274) (by decide +kernel))) rfl
theorem gk_checkEnoughFree : ∀ w ∈ ([.methodLink "MoveRows" 109 y_checkEnoughFree, .instanceMethod y_checkEnoughFree, .selects "MoveRows" y_checkEnoughFree y_checkEnoughFree, .initialized "MoveRows", .code y_checkEnoughFree b_checkEnoughFree 3 none] : List Cond), w ∈ wG := List.forall_mem_cons.mpr ⟨kl_109, List.forall_mem_cons.mpr ⟨ki_checkEnoughFree, List.forall_mem_cons.mpr ⟨ks_checkEnoughFree, List.forall_mem_cons.mpr ⟨kn_MoveRows, List.forall_mem_cons.mpr ⟨kc_checkEnoughFree, fun _ h => nomatch h⟩⟩⟩⟩⟩
theorem kl_113 : Cond.methodLink "MoveRows" 113 y_changeHolds ∈ wG := in_wG (List.mem_append_right _ (List.mem_of_getElem? (i := 298) (by decide +kernel))) rfl
theorem gk_changeHolds : ∀ w ∈ ([.methodLink "MoveRows" 113 y_changeHolds, .instanceMethod y_changeHolds, .selects "MoveRows" y_changeHolds y_changeHolds, .initialized "MoveRows", .code y_changeHolds b_changeHolds 4 none] : List Cond), w ∈ wG := List.forall_mem_cons.mpr ⟨kl_113, List.forall_mem_cons.mpr ⟨ki_changeHolds, List.forall_mem_cons.mpr ⟨ks_changeHolds, List.forall_mem_cons.mpr ⟨kn_MoveRows, List.forall_mem_cons.mpr ⟨kc_changeHolds, fun _ h => nomatch h⟩⟩⟩⟩⟩
theorem kl_118 : Cond.methodLink "MoveRows" 118 y_checkOpenOrHeld ∈ wG := in_wG (List.mem_append_right _ (List.mem_of_getElem? (i := 317) (by decide +kernel))) rfl
theorem gk_checkOpenOrHeld : ∀ w ∈ ([.methodLink "MoveRows" 118 y_checkOpenOrHeld, .instanceMethod y_checkOpenOrHeld, .selects "MoveRows" y_checkOpenOrHeld y_checkOpenOrHeld, .initialized "MoveRows", .code y_checkOpenOrHeld b_checkOpenOrHeld 2 none] : List Cond), w ∈ wG := List.forall_mem_cons.mpr ⟨kl_118, List.forall_mem_cons.mpr ⟨ki_checkOpenOrHeld, List.forall_mem_cons.mpr ⟨ks_checkOpenOrHeld, List.forall_mem_cons.mpr ⟨kn_MoveRows, List.forall_mem_cons.mpr ⟨kc_checkOpenOrHeld, fun _ h => nomatch h⟩⟩⟩⟩⟩
theorem kl_121 : Cond.methodLink "MoveRows" 121 y_checkDay ∈ wG := in_wG (List.mem_append_right _ (List.mem_of_getElem? (i := 329) (by decide +kernel))) rfl
theorem gk_checkDay : ∀ w ∈ ([.methodLink "MoveRows" 121 y_checkDay, .static y_checkDay, .initialized "MoveRows", .code y_checkDay b_checkDay 1 none] : List Cond), w ∈ wG := List.forall_mem_cons.mpr ⟨kl_121, List.forall_mem_cons.mpr ⟨ki_checkDay, List.forall_mem_cons.mpr ⟨kn_MoveRows, List.forall_mem_cons.mpr ⟨kc_checkDay, fun _ h => nomatch h⟩⟩⟩⟩
theorem kl_124 : Cond.methodLink "MoveRows" 124 y_checkNotClosed ∈ wG := in_wG (List.mem_append_right _ (List.mem_of_getElem? (i := 333) (by decide +kernel))) rfl
theorem gk_checkNotClosed : ∀ w ∈ ([.methodLink "MoveRows" 124 y_checkNotClosed, .instanceMethod y_checkNotClosed, .selects "MoveRows" y_checkNotClosed y_checkNotClosed, .initialized "MoveRows", .code y_checkNotClosed b_checkNotClosed 2 none] : List Cond), w ∈ wG := List.forall_mem_cons.mpr ⟨kl_124, List.forall_mem_cons.mpr ⟨ki_checkNotClosed, List.forall_mem_cons.mpr ⟨ks_checkNotClosed, List.forall_mem_cons.mpr ⟨kn_MoveRows, List.forall_mem_cons.mpr ⟨kc_checkNotClosed, fun _ h => nomatch h⟩⟩⟩⟩⟩
theorem kl_127 : Cond.methodLink "MoveRows" 127 y_postEntries ∈ wG := in_wG (List.mem_append_right _ (List.mem_of_getElem? (i := 338) (by decide +kernel))) rfl
theorem gk_postEntries : ∀ w ∈ ([.methodLink "MoveRows" 127 y_postEntries, .instanceMethod y_postEntries, .selects "MoveRows" y_postEntries y_postEntries, .initialized "MoveRows", .code y_postEntries b_postEntries 5 none] : List Cond), w ∈ wG := List.forall_mem_cons.mpr ⟨kl_127, List.forall_mem_cons.mpr ⟨ki_postEntries, List.forall_mem_cons.mpr ⟨ks_postEntries, List.forall_mem_cons.mpr ⟨kn_MoveRows, List.forall_mem_cons.mpr ⟨kc_postEntries, fun _ h => nomatch h⟩⟩⟩⟩⟩
theorem kl_134 : Cond.methodLink "MoveRows" 134 y_postReversal ∈ wG := in_wG (List.mem_append_right _ (List.mem_of_getElem? (i := 351) (by decide +kernel))) rfl
theorem gk_postReversal : ∀ w ∈ ([.methodLink "MoveRows" 134 y_postReversal, .instanceMethod y_postReversal, .selects "MoveRows" y_postReversal y_postReversal, .initialized "MoveRows", .code y_postReversal b_postReversal 6 (some .int)] : List Cond), w ∈ wG := List.forall_mem_cons.mpr ⟨kl_134, List.forall_mem_cons.mpr ⟨ki_postReversal, List.forall_mem_cons.mpr ⟨ks_postReversal, List.forall_mem_cons.mpr ⟨kn_MoveRows, List.forall_mem_cons.mpr ⟨kc_postReversal, fun _ h => nomatch h⟩⟩⟩⟩⟩
theorem kl_137 : Cond.methodLink "MoveRows" 137 y_countUndoable ∈ wG := in_wG (List.mem_append_right _ (List.mem_of_getElem? (i := 362) (by decide +kernel))) rfl
theorem gk_countUndoable : ∀ w ∈ ([.methodLink "MoveRows" 137 y_countUndoable, .instanceMethod y_countUndoable, .selects "MoveRows" y_countUndoable y_countUndoable, .initialized "MoveRows", .code y_countUndoable b_countUndoable 4 (some .int)] : List Cond), w ∈ wG := List.forall_mem_cons.mpr ⟨kl_137, List.forall_mem_cons.mpr ⟨ki_countUndoable, List.forall_mem_cons.mpr ⟨ks_countUndoable, List.forall_mem_cons.mpr ⟨kn_MoveRows, List.forall_mem_cons.mpr ⟨kc_countUndoable, fun _ h => nomatch h⟩⟩⟩⟩⟩
theorem kl_143 : Cond.methodLink "MoveRows" 143 y_isEnoughFreeToUndo ∈ wG := in_wG (List.mem_append_right _ (List.mem_of_getElem? (i := 371) (by decide +kernel))) rfl
theorem gk_isEnoughFreeToUndo : ∀ w ∈ ([.methodLink "MoveRows" 143 y_isEnoughFreeToUndo, .instanceMethod y_isEnoughFreeToUndo, .selects "MoveRows" y_isEnoughFreeToUndo y_isEnoughFreeToUndo, .initialized "MoveRows", .code y_isEnoughFreeToUndo b_isEnoughFreeToUndo 3 (some .boolean)] : List Cond), w ∈ wG := List.forall_mem_cons.mpr ⟨kl_143, List.forall_mem_cons.mpr ⟨ki_isEnoughFreeToUndo, List.forall_mem_cons.mpr ⟨ks_isEnoughFreeToUndo, List.forall_mem_cons.mpr ⟨kn_MoveRows, List.forall_mem_cons.mpr ⟨kc_isEnoughFreeToUndo, fun _ h => nomatch h⟩⟩⟩⟩⟩
theorem kl_148 : Cond.methodLink "MoveRows" 148 y_isUndoable ∈ wG := in_wG (List.mem_append_right _ (List.mem_of_getElem? (i := 366) (by decide +kernel))) rfl
theorem gk_isUndoable : ∀ w ∈ ([.methodLink "MoveRows" 148 y_isUndoable, .instanceMethod y_isUndoable, .selects "MoveRows" y_isUndoable y_isUndoable, .initialized "MoveRows", .code y_isUndoable b_isUndoable 3 (some .boolean)] : List Cond), w ∈ wG := List.forall_mem_cons.mpr ⟨kl_148, List.forall_mem_cons.mpr ⟨ki_isUndoable, List.forall_mem_cons.mpr ⟨ks_isUndoable, List.forall_mem_cons.mpr ⟨kn_MoveRows, List.forall_mem_cons.mpr ⟨kc_isUndoable, fun _ h => nomatch h⟩⟩⟩⟩⟩
theorem kl_162 : Cond.methodLink "MoveRows" 162 y_checkPlace ∈ wG := in_wG (List.mem_append_right _ (List.mem_of_getElem? (i := 394) (by decide +kernel))) rfl
theorem gk_checkPlace : ∀ w ∈ ([.methodLink "MoveRows" 162 y_checkPlace, .static y_checkPlace, .initialized "MoveRows", .code y_checkPlace b_checkPlace 1 none] : List Cond), w ∈ wG := List.forall_mem_cons.mpr ⟨kl_162, List.forall_mem_cons.mpr ⟨ki_checkPlace, List.forall_mem_cons.mpr ⟨kn_MoveRows, List.forall_mem_cons.mpr ⟨kc_checkPlace, fun _ h => nomatch h⟩⟩⟩⟩
theorem kl_167 : Cond.methodLink "MoveRows" 167 y_sumOfAllLots ∈ wG := in_wG (List.mem_append_right _ (List.mem_of_getElem? (i := 399) (by decide +kernel))) rfl
theorem gk_sumOfAllLots : ∀ w ∈ ([.methodLink "MoveRows" 167 y_sumOfAllLots, .instanceMethod y_sumOfAllLots, .selects "MoveRows" y_sumOfAllLots y_sumOfAllLots, .initialized "MoveRows", .code y_sumOfAllLots b_sumOfAllLots 5 (some .long)] : List Cond), w ∈ wG := List.forall_mem_cons.mpr ⟨kl_167, List.forall_mem_cons.mpr ⟨ki_sumOfAllLots, List.forall_mem_cons.mpr ⟨ks_sumOfAllLots, List.forall_mem_cons.mpr ⟨kn_MoveRows, List.forall_mem_cons.mpr ⟨kc_sumOfAllLots, fun _ h => nomatch h⟩⟩⟩⟩⟩
theorem kl_171 : Cond.methodLink "MoveRows" 171 y_netOfCell ∈ wG := in_wG (List.mem_append_right _ (List.mem_of_getElem? (i := 417) (by decide +kernel))) rfl
theorem gk_netOfCell : ∀ w ∈ ([.methodLink "MoveRows" 171 y_netOfCell, .instanceMethod y_netOfCell, .selects "MoveRows" y_netOfCell y_netOfCell, .initialized "MoveRows", .code y_netOfCell b_netOfCell 7 (some .long)] : List Cond), w ∈ wG := List.forall_mem_cons.mpr ⟨kl_171, List.forall_mem_cons.mpr ⟨ki_netOfCell, List.forall_mem_cons.mpr ⟨ks_netOfCell, List.forall_mem_cons.mpr ⟨kn_MoveRows, List.forall_mem_cons.mpr ⟨kc_netOfCell, fun _ h => nomatch h⟩⟩⟩⟩⟩
theorem kl_175 : Cond.methodLink "MoveRows" 175 y_freeOf ∈ wG := in_wG (List.mem_append_right _ (List.mem_of_getElem? (i := 293) (by decide +kernel))) rfl
theorem gk_freeOf : ∀ w ∈ ([.methodLink "MoveRows" 175 y_freeOf, .instanceMethod y_freeOf, .selects "MoveRows" y_freeOf y_freeOf, .initialized "MoveRows", .code y_freeOf b_freeOf 2 (some .long)] : List Cond), w ∈ wG := List.forall_mem_cons.mpr ⟨kl_175, List.forall_mem_cons.mpr ⟨ki_freeOf, List.forall_mem_cons.mpr ⟨ks_freeOf, List.forall_mem_cons.mpr ⟨kn_MoveRows, List.forall_mem_cons.mpr ⟨kc_freeOf, fun _ h => nomatch h⟩⟩⟩⟩⟩
theorem kl_178 : Cond.methodLink "MoveRows" 178 y_findPostedSlot ∈ wG := in_wG (List.mem_append_right _ (List.mem_of_getElem? (i := 442) (by decide +kernel))) rfl
theorem gk_findPostedSlot : ∀ w ∈ ([.methodLink "MoveRows" 178 y_findPostedSlot, .instanceMethod y_findPostedSlot, .selects "MoveRows" y_findPostedSlot y_findPostedSlot, .initialized "MoveRows", .code y_findPostedSlot b_findPostedSlot 8 (some .int)] : List Cond), w ∈ wG := List.forall_mem_cons.mpr ⟨kl_178, List.forall_mem_cons.mpr ⟨ki_findPostedSlot, List.forall_mem_cons.mpr ⟨ks_findPostedSlot, List.forall_mem_cons.mpr ⟨kn_MoveRows, List.forall_mem_cons.mpr ⟨kc_findPostedSlot, fun _ h => nomatch h⟩⟩⟩⟩⟩
theorem kl_192 : Cond.methodLink "MoveRows" 192 y_slotOf ∈ wG := in_wG (List.mem_append_right _ (List.mem_of_getElem? (i := 251) (by decide +kernel))) rfl
theorem gk_slotOf : ∀ w ∈ ([.methodLink "MoveRows" 192 y_slotOf, .static y_slotOf, .initialized "MoveRows", .code y_slotOf b_slotOf 2 (some .int)] : List Cond), w ∈ wG := List.forall_mem_cons.mpr ⟨kl_192, List.forall_mem_cons.mpr ⟨ki_slotOf, List.forall_mem_cons.mpr ⟨kn_MoveRows, List.forall_mem_cons.mpr ⟨kc_slotOf, fun _ h => nomatch h⟩⟩⟩⟩
theorem kl_197 : Cond.methodLink "MoveRows" 197 y_countPostedEntries ∈ wG := in_wG (List.mem_append_right _ (List.mem_of_getElem? (i := 75) (by decide +kernel))) rfl
theorem gk_countPostedEntries : ∀ w ∈ ([.methodLink "MoveRows" 197 y_countPostedEntries, .instanceMethod y_countPostedEntries, .selects "MoveRows" y_countPostedEntries y_countPostedEntries, .initialized "MoveRows", .code y_countPostedEntries b_countPostedEntries 3 (some .int)] : List Cond), w ∈ wG := List.forall_mem_cons.mpr ⟨kl_197, List.forall_mem_cons.mpr ⟨ki_countPostedEntries, List.forall_mem_cons.mpr ⟨ks_countPostedEntries, List.forall_mem_cons.mpr ⟨kn_MoveRows, List.forall_mem_cons.mpr ⟨kc_countPostedEntries, fun _ h => nomatch h⟩⟩⟩⟩⟩
theorem kl_200 : Cond.methodLink "MoveRows" 200 y_countHeld ∈ wG := in_wG (List.mem_append_right _ (List.mem_of_getElem? (i := 79) (by decide +kernel))) rfl
theorem gk_countHeld : ∀ w ∈ ([.methodLink "MoveRows" 200 y_countHeld, .instanceMethod y_countHeld, .selects "MoveRows" y_countHeld y_countHeld, .initialized "MoveRows", .code y_countHeld b_countHeld 3 (some .int)] : List Cond), w ∈ wG := List.forall_mem_cons.mpr ⟨kl_200, List.forall_mem_cons.mpr ⟨ki_countHeld, List.forall_mem_cons.mpr ⟨ks_countHeld, List.forall_mem_cons.mpr ⟨kn_MoveRows, List.forall_mem_cons.mpr ⟨kc_countHeld, fun _ h => nomatch h⟩⟩⟩⟩⟩
theorem kl_221 : Cond.methodLink "MoveRows" 221 y_isSound ∈ wG := in_wG (List.mem_append_right _ (List.mem_of_getElem? (i := 265) (by decide +kernel))) rfl
theorem gk_isSound : ∀ w ∈ ([.methodLink "MoveRows" 221 y_isSound, .instanceMethod y_isSound, .selects "MoveRows" y_isSound y_isSound, .initialized "MoveRows", .code y_isSound b_isSound 3 (some .boolean)] : List Cond), w ∈ wG := List.forall_mem_cons.mpr ⟨kl_221, List.forall_mem_cons.mpr ⟨ki_isSound, List.forall_mem_cons.mpr ⟨ks_isSound, List.forall_mem_cons.mpr ⟨kn_MoveRows, List.forall_mem_cons.mpr ⟨kc_isSound, fun _ h => nomatch h⟩⟩⟩⟩⟩
theorem kl_226 : Cond.methodLink "MoveRows" 226 y_clearNet ∈ wG := in_wG (List.mem_append_right _ (List.mem_of_getElem? (i := 278) (by decide +kernel))) rfl
theorem gk_clearNet : ∀ w ∈ ([.methodLink "MoveRows" 226 y_clearNet, .instanceMethod y_clearNet, .selects "MoveRows" y_clearNet y_clearNet, .initialized "MoveRows", .code y_clearNet b_clearNet 1 none] : List Cond), w ∈ wG := List.forall_mem_cons.mpr ⟨kl_226, List.forall_mem_cons.mpr ⟨ki_clearNet, List.forall_mem_cons.mpr ⟨ks_clearNet, List.forall_mem_cons.mpr ⟨kn_MoveRows, List.forall_mem_cons.mpr ⟨kc_clearNet, fun _ h => nomatch h⟩⟩⟩⟩⟩
theorem kl_229 : Cond.methodLink "MoveRows" 229 y_addToNet ∈ wG := in_wG (List.mem_append_right _ (List.mem_of_getElem? (i := 285) (by decide +kernel))) rfl
theorem gk_addToNet : ∀ w ∈ ([.methodLink "MoveRows" 229 y_addToNet, .instanceMethod y_addToNet, .selects "MoveRows" y_addToNet y_addToNet, .initialized "MoveRows", .code y_addToNet b_addToNet 5 none] : List Cond), w ∈ wG := List.forall_mem_cons.mpr ⟨kl_229, List.forall_mem_cons.mpr ⟨ki_addToNet, List.forall_mem_cons.mpr ⟨ks_addToNet, List.forall_mem_cons.mpr ⟨kn_MoveRows, List.forall_mem_cons.mpr ⟨kc_addToNet, fun _ h => nomatch h⟩⟩⟩⟩⟩
theorem kl_232 : Cond.methodLink "MoveRows" 232 y_isNetCovered ∈ wG := in_wG (List.mem_append_right _ (List.mem_of_getElem? (i := 289) (by decide +kernel))) rfl
theorem gk_isNetCovered : ∀ w ∈ ([.methodLink "MoveRows" 232 y_isNetCovered, .instanceMethod y_isNetCovered, .selects "MoveRows" y_isNetCovered y_isNetCovered, .initialized "MoveRows", .code y_isNetCovered b_isNetCovered 2 (some .boolean)] : List Cond), w ∈ wG := List.forall_mem_cons.mpr ⟨kl_232, List.forall_mem_cons.mpr ⟨ki_isNetCovered, List.forall_mem_cons.mpr ⟨ks_isNetCovered, List.forall_mem_cons.mpr ⟨kn_MoveRows, List.forall_mem_cons.mpr ⟨kc_isNetCovered, fun _ h => nomatch h⟩⟩⟩⟩⟩
theorem kl_238 : Cond.methodLink "MoveRows" 238 y_sumOfLot ∈ wG := in_wG (List.mem_append_right _ (List.mem_of_getElem? (i := 269) (by decide +kernel))) rfl
theorem gk_sumOfLot : ∀ w ∈ ([.methodLink "MoveRows" 238 y_sumOfLot, .instanceMethod y_sumOfLot, .selects "MoveRows" y_sumOfLot y_sumOfLot, .initialized "MoveRows", .code y_sumOfLot b_sumOfLot 7 (some .long)] : List Cond), w ∈ wG := List.forall_mem_cons.mpr ⟨kl_238, List.forall_mem_cons.mpr ⟨ki_sumOfLot, List.forall_mem_cons.mpr ⟨ks_sumOfLot, List.forall_mem_cons.mpr ⟨kn_MoveRows, List.forall_mem_cons.mpr ⟨kc_sumOfLot, fun _ h => nomatch h⟩⟩⟩⟩⟩
theorem kl_241 : Cond.methodLink "MoveRows" 241 y_fillL ∈ wG := in_wG (List.mem_append_right _ (List.mem_of_getElem? (i := 282) (by decide +kernel))) rfl
theorem gk_fillL : ∀ w ∈ ([.methodLink "MoveRows" 241 y_fillL, .static y_fillL, .initialized y_fillL.cls, .code y_fillL b_fillL 5 none] : List Cond), w ∈ wG := List.forall_mem_cons.mpr ⟨kl_241, List.forall_mem_cons.mpr ⟨ki_fillL, List.forall_mem_cons.mpr ⟨kn_Arrays, List.forall_mem_cons.mpr ⟨kc_fillL, fun _ h => nomatch h⟩⟩⟩⟩
theorem kl_w_7 : Cond.methodLink "MoveRowsLaw" 7 y_batch ∈ wG := in_wG (List.mem_append_right _ (List.mem_of_getElem? (i := 87) (by decide +kernel))) rfl
theorem kl_w_15 : Cond.methodLink "MoveRowsLaw" 15 y_entry ∈ wG := in_wG (List.mem_append_right _ (List.mem_of_getElem? (i := 174) (by decide +kernel))) rfl
theorem kl_w_25 : Cond.methodLink "MoveRowsLaw" 25 y_hold ∈ wG := in_wG (List.mem_append_right _ (List.mem_of_getElem? (i := 257) (by decide +kernel))) rfl
theorem kl_w_29 : Cond.methodLink "MoveRowsLaw" 29 y_free ∈ wG := in_wG (List.mem_append_right _ (List.mem_of_getElem? (i := 305) (by decide +kernel))) rfl
theorem kl_w_32 : Cond.methodLink "MoveRowsLaw" 32 y_drop ∈ wG := in_wG (List.mem_append_right _ (List.mem_of_getElem? (i := 313) (by decide +kernel))) rfl
theorem kl_w_35 : Cond.methodLink "MoveRowsLaw" 35 y_post ∈ wG := in_wG (List.mem_append_right _ (List.mem_of_getElem? (i := 325) (by decide +kernel))) rfl
theorem kl_w_39 : Cond.methodLink "MoveRowsLaw" 39 y_reverse ∈ wG := in_wG (List.mem_append_right _ (List.mem_of_getElem? (i := 345) (by decide +kernel))) rfl
theorem kl_w_43 : Cond.methodLink "MoveRowsLaw" 43 y_undo ∈ wG := in_wG (List.mem_append_right _ (List.mem_of_getElem? (i := 358) (by decide +kernel))) rfl
theorem kl_w_47 : Cond.methodLink "MoveRowsLaw" 47 y_close ∈ wG := in_wG (List.mem_append_right _ (List.mem_of_getElem? (i := 379) (by decide +kernel))) rfl
theorem kl_w_50 : Cond.methodLink "MoveRowsLaw" 50 y_carry ∈ wG := in_wG (List.mem_append_right _ (List.mem_of_getElem? (i := 389) (by decide +kernel))) rfl
theorem kl_w_54 : Cond.methodLink "MoveRowsLaw" 54 y_stock ∈ wG := in_wG (List.mem_append_right _ (List.mem_of_getElem? (i := 406) (by decide +kernel))) rfl
theorem kl_w_57 : Cond.methodLink "MoveRowsLaw" 57 y_upTo ∈ wG := in_wG (List.mem_append_right _ (List.mem_of_getElem? (i := 413) (by decide +kernel))) rfl
theorem kl_w_61 : Cond.methodLink "MoveRowsLaw" 61 y_available ∈ wG := in_wG (List.mem_append_right _ (List.mem_of_getElem? (i := 424) (by decide +kernel))) rfl
theorem kl_w_64 : Cond.methodLink "MoveRowsLaw" 64 y_at ∈ wG := in_wG (List.mem_append_right _ (List.mem_of_getElem? (i := 431) (by decide +kernel))) rfl
theorem kl_w_67 : Cond.methodLink "MoveRowsLaw" 67 y_row ∈ wG := in_wG (List.mem_append_right _ (List.mem_of_getElem? (i := 438) (by decide +kernel))) rfl
theorem kl_w_71 : Cond.methodLink "MoveRowsLaw" 71 y_told ∈ wG := in_wG (List.mem_append_right _ (List.mem_of_getElem? (i := 451) (by decide +kernel))) rfl
theorem kl_w_74 : Cond.methodLink "MoveRowsLaw" 74 y_packed ∈ wG := in_wG (List.mem_append_right _ (List.mem_of_getElem? (i := 459) (by decide +kernel))) rfl
theorem kl_w_77 : Cond.methodLink "MoveRowsLaw" 77 y_init ∈ wG := in_wG (List.mem_append_right _ (List.mem_of_getElem? (i := 14) (by decide +kernel))) rfl
theorem kl_w_80 : Cond.methodLink "MoveRowsLaw" 80 y_m_init ∈ wG := in_wG (List.mem_append_right _ (List.mem_of_getElem? (i := 467) (by decide +kernel))) rfl
theorem kl_w_81 : Cond.methodLink "MoveRowsLaw" 81 y_w_batch ∈ wG := in_wG (List.mem_append_right _ (List.mem_of_getElem? (i := 83) (by decide +kernel))) rfl
theorem gk_w_batch : ∀ w ∈ ([.methodLink "MoveRowsLaw" 81 y_w_batch, .static y_w_batch, .initialized "MoveRowsLaw", .codeWith y_w_batch b_w_batch 3 (some .int) [(0, 8, 11, 13)]] : List Cond), w ∈ wG := List.forall_mem_cons.mpr ⟨kl_w_81, List.forall_mem_cons.mpr ⟨ki_w_batch, List.forall_mem_cons.mpr ⟨kn_MoveRowsLaw, List.forall_mem_cons.mpr ⟨kc_w_batch, fun _ h => nomatch h⟩⟩⟩⟩
theorem kl_w_86 : Cond.methodLink "MoveRowsLaw" 86 y_m_batch ∈ wG := in_wG (List.mem_append_right _ (List.mem_of_getElem? (i := 518) (by decide +kernel))) rfl
theorem kl_w_87 : Cond.methodLink "MoveRowsLaw" 87 y_m_thrown ∈ wG := in_wG (List.mem_append_right _ (List.mem_of_getElem? (i := 514) (by decide +kernel))) rfl
theorem kl_w_90 : Cond.methodLink "MoveRowsLaw" 90 y_w_entry ∈ wG := in_wG (List.mem_append_right _ (List.mem_of_getElem? (i := 168) (by decide +kernel))) rfl
theorem gk_w_entry : ∀ w ∈ ([.methodLink "MoveRowsLaw" 90 y_w_entry, .static y_w_entry, .initialized "MoveRowsLaw", .codeWith y_w_entry b_w_entry 7 (some .int) [(0, 14, 17, 19), (0, 14, 21, 21), (0, 14, 25, 23), (0, 14, 29, 13)]] : List Cond), w ∈ wG := List.forall_mem_cons.mpr ⟨kl_w_90, List.forall_mem_cons.mpr ⟨ki_w_entry, List.forall_mem_cons.mpr ⟨kn_MoveRowsLaw, List.forall_mem_cons.mpr ⟨kc_w_entry, fun _ h => nomatch h⟩⟩⟩⟩
theorem kl_w_93 : Cond.methodLink "MoveRowsLaw" 93 y_m_entry ∈ wG := in_wG (List.mem_append_right _ (List.mem_of_getElem? (i := 526) (by decide +kernel))) rfl
theorem kl_w_94 : Cond.methodLink "MoveRowsLaw" 94 y_w_hold ∈ wG := in_wG (List.mem_append_right _ (List.mem_of_getElem? (i := 254) (by decide +kernel))) rfl
theorem gk_w_hold : ∀ w ∈ ([.methodLink "MoveRowsLaw" 94 y_w_hold, .static y_w_hold, .initialized "MoveRowsLaw", .codeWith y_w_hold b_w_hold 3 (some .int) [(0, 5, 8, 19), (0, 5, 11, 23), (0, 5, 14, 13)]] : List Cond), w ∈ wG := List.forall_mem_cons.mpr ⟨kl_w_94, List.forall_mem_cons.mpr ⟨ki_w_hold, List.forall_mem_cons.mpr ⟨kn_MoveRowsLaw, List.forall_mem_cons.mpr ⟨kc_w_hold, fun _ h => nomatch h⟩⟩⟩⟩
theorem kl_w_97 : Cond.methodLink "MoveRowsLaw" 97 y_m_hold ∈ wG := in_wG (List.mem_append_right _ (List.mem_of_getElem? (i := 543) (by decide +kernel))) rfl
theorem kl_w_98 : Cond.methodLink "MoveRowsLaw" 98 y_w_free ∈ wG := in_wG (List.mem_append_right _ (List.mem_of_getElem? (i := 302) (by decide +kernel))) rfl
theorem gk_w_free : ∀ w ∈ ([.methodLink "MoveRowsLaw" 98 y_w_free, .static y_w_free, .initialized "MoveRowsLaw", .codeWith y_w_free b_w_free 3 (some .int) [(0, 5, 8, 19), (0, 5, 11, 23)]] : List Cond), w ∈ wG := List.forall_mem_cons.mpr ⟨kl_w_98, List.forall_mem_cons.mpr ⟨ki_w_free, List.forall_mem_cons.mpr ⟨kn_MoveRowsLaw, List.forall_mem_cons.mpr ⟨kc_w_free, fun _ h => nomatch h⟩⟩⟩⟩
theorem kl_w_100 : Cond.methodLink "MoveRowsLaw" 100 y_m_free ∈ wG := in_wG (List.mem_append_right _ (List.mem_of_getElem? (i := 567) (by decide +kernel))) rfl
theorem kl_w_101 : Cond.methodLink "MoveRowsLaw" 101 y_w_drop ∈ wG := in_wG (List.mem_append_right _ (List.mem_of_getElem? (i := 310) (by decide +kernel))) rfl
theorem gk_w_drop : ∀ w ∈ ([.methodLink "MoveRowsLaw" 101 y_w_drop, .static y_w_drop, .initialized "MoveRowsLaw", .codeWith y_w_drop b_w_drop 3 (some .int) [(0, 5, 8, 19), (0, 5, 11, 23)]] : List Cond), w ∈ wG := List.forall_mem_cons.mpr ⟨kl_w_101, List.forall_mem_cons.mpr ⟨ki_w_drop, List.forall_mem_cons.mpr ⟨kn_MoveRowsLaw, List.forall_mem_cons.mpr ⟨kc_w_drop, fun _ h => nomatch h⟩⟩⟩⟩
theorem kl_w_103 : Cond.methodLink "MoveRowsLaw" 103 y_m_drop ∈ wG := in_wG (List.mem_append_right _ (List.mem_of_getElem? (i := 571) (by decide +kernel))) rfl
theorem kl_w_104 : Cond.methodLink "MoveRowsLaw" 104 y_w_post ∈ wG := in_wG (List.mem_append_right _ (List.mem_of_getElem? (i := 322) (by decide +kernel))) rfl
theorem gk_w_post : ∀ w ∈ ([.methodLink "MoveRowsLaw" 104 y_w_post, .static y_w_post, .initialized "MoveRowsLaw", .codeWith y_w_post b_w_post 4 (some .int) [(0, 6, 9, 19), (0, 6, 12, 21), (0, 6, 15, 23), (0, 6, 18, 13)]] : List Cond), w ∈ wG := List.forall_mem_cons.mpr ⟨kl_w_104, List.forall_mem_cons.mpr ⟨ki_w_post, List.forall_mem_cons.mpr ⟨kn_MoveRowsLaw, List.forall_mem_cons.mpr ⟨kc_w_post, fun _ h => nomatch h⟩⟩⟩⟩
theorem kl_w_107 : Cond.methodLink "MoveRowsLaw" 107 y_m_post ∈ wG := in_wG (List.mem_append_right _ (List.mem_of_getElem? (i := 575) (by decide +kernel))) rfl
theorem kl_w_108 : Cond.methodLink "MoveRowsLaw" 108 y_w_reverse ∈ wG := in_wG (List.mem_append_right _ (List.mem_of_getElem? (i := 342) (by decide +kernel))) rfl
theorem gk_w_reverse : ∀ w ∈ ([.methodLink "MoveRowsLaw" 108 y_w_reverse, .static y_w_reverse, .initialized "MoveRowsLaw", .codeWith y_w_reverse b_w_reverse 5 (some .int) [(0, 10, 13, 19), (0, 10, 17, 21), (0, 10, 21, 23), (0, 10, 25, 13)]] : List Cond), w ∈ wG := List.forall_mem_cons.mpr ⟨kl_w_108, List.forall_mem_cons.mpr ⟨ki_w_reverse, List.forall_mem_cons.mpr ⟨kn_MoveRowsLaw, List.forall_mem_cons.mpr ⟨kc_w_reverse, fun _ h => nomatch h⟩⟩⟩⟩
theorem kl_w_111 : Cond.methodLink "MoveRowsLaw" 111 y_m_reverse ∈ wG := in_wG (List.mem_append_right _ (List.mem_of_getElem? (i := 583) (by decide +kernel))) rfl
theorem kl_w_112 : Cond.methodLink "MoveRowsLaw" 112 y_w_undo ∈ wG := in_wG (List.mem_append_right _ (List.mem_of_getElem? (i := 355) (by decide +kernel))) rfl
theorem gk_w_undo : ∀ w ∈ ([.methodLink "MoveRowsLaw" 112 y_w_undo, .static y_w_undo, .initialized "MoveRowsLaw", .codeWith y_w_undo b_w_undo 4 (some .int) [(0, 9, 12, 21), (0, 9, 15, 23), (0, 9, 18, 13)]] : List Cond), w ∈ wG := List.forall_mem_cons.mpr ⟨kl_w_112, List.forall_mem_cons.mpr ⟨ki_w_undo, List.forall_mem_cons.mpr ⟨kn_MoveRowsLaw, List.forall_mem_cons.mpr ⟨kc_w_undo, fun _ h => nomatch h⟩⟩⟩⟩
theorem kl_w_115 : Cond.methodLink "MoveRowsLaw" 115 y_m_undo ∈ wG := in_wG (List.mem_append_right _ (List.mem_of_getElem? (i := 591) (by decide +kernel))) rfl
theorem kl_w_116 : Cond.methodLink "MoveRowsLaw" 116 y_w_close ∈ wG := in_wG (List.mem_append_right _ (List.mem_of_getElem? (i := 376) (by decide +kernel))) rfl
theorem gk_w_close : ∀ w ∈ ([.methodLink "MoveRowsLaw" 116 y_w_close, .static y_w_close, .initialized "MoveRowsLaw", .codeWith y_w_close b_w_close 4 (some .int) [(0, 9, 12, 21)]] : List Cond), w ∈ wG := List.forall_mem_cons.mpr ⟨kl_w_116, List.forall_mem_cons.mpr ⟨ki_w_close, List.forall_mem_cons.mpr ⟨kn_MoveRowsLaw, List.forall_mem_cons.mpr ⟨kc_w_close, fun _ h => nomatch h⟩⟩⟩⟩
theorem kl_w_118 : Cond.methodLink "MoveRowsLaw" 118 y_m_close ∈ wG := in_wG (List.mem_append_right _ (List.mem_of_getElem? (i := 595) (by decide +kernel))) rfl
theorem kl_w_119 : Cond.methodLink "MoveRowsLaw" 119 y_w_carry ∈ wG := in_wG (List.mem_append_right _ (List.mem_of_getElem? (i := 386) (by decide +kernel))) rfl
theorem gk_w_carry : ∀ w ∈ ([.methodLink "MoveRowsLaw" 119 y_w_carry, .static y_w_carry, .initialized "MoveRowsLaw", .codeWith y_w_carry b_w_carry 5 (some .int) [(0, 9, 12, 21), (0, 9, 16, 23)]] : List Cond), w ∈ wG := List.forall_mem_cons.mpr ⟨kl_w_119, List.forall_mem_cons.mpr ⟨ki_w_carry, List.forall_mem_cons.mpr ⟨kn_MoveRowsLaw, List.forall_mem_cons.mpr ⟨kc_w_carry, fun _ h => nomatch h⟩⟩⟩⟩
theorem kl_w_121 : Cond.methodLink "MoveRowsLaw" 121 y_m_carry ∈ wG := in_wG (List.mem_append_right _ (List.mem_of_getElem? (i := 599) (by decide +kernel))) rfl
theorem kl_w_122 : Cond.methodLink "MoveRowsLaw" 122 y_w_stock ∈ wG := in_wG (List.mem_append_right _ (List.mem_of_getElem? (i := 403) (by decide +kernel))) rfl
theorem gk_w_stock : ∀ w ∈ ([.methodLink "MoveRowsLaw" 122 y_w_stock, .static y_w_stock, .initialized "MoveRowsLaw", .codeWith y_w_stock b_w_stock 5 (some .int) [(0, 9, 12, 21)]] : List Cond), w ∈ wG := List.forall_mem_cons.mpr ⟨kl_w_122, List.forall_mem_cons.mpr ⟨ki_w_stock, List.forall_mem_cons.mpr ⟨kn_MoveRowsLaw, List.forall_mem_cons.mpr ⟨kc_w_stock, fun _ h => nomatch h⟩⟩⟩⟩
theorem kl_w_124 : Cond.methodLink "MoveRowsLaw" 124 y_m_stock ∈ wG := in_wG (List.mem_append_right _ (List.mem_of_getElem? (i := 603) (by decide +kernel))) rfl
theorem kl_w_125 : Cond.methodLink "MoveRowsLaw" 125 y_w_upTo ∈ wG := in_wG (List.mem_append_right _ (List.mem_of_getElem? (i := 410) (by decide +kernel))) rfl
theorem gk_w_upTo : ∀ w ∈ ([.methodLink "MoveRowsLaw" 125 y_w_upTo, .static y_w_upTo, .initialized "MoveRowsLaw", .codeWith y_w_upTo b_w_upTo 6 (some .int) [(0, 11, 14, 21)]] : List Cond), w ∈ wG := List.forall_mem_cons.mpr ⟨kl_w_125, List.forall_mem_cons.mpr ⟨ki_w_upTo, List.forall_mem_cons.mpr ⟨kn_MoveRowsLaw, List.forall_mem_cons.mpr ⟨kc_w_upTo, fun _ h => nomatch h⟩⟩⟩⟩
theorem kl_w_128 : Cond.methodLink "MoveRowsLaw" 128 y_m_upTo ∈ wG := in_wG (List.mem_append_right _ (List.mem_of_getElem? (i := 607) (by decide +kernel))) rfl
theorem kl_w_129 : Cond.methodLink "MoveRowsLaw" 129 y_w_available ∈ wG := in_wG (List.mem_append_right _ (List.mem_of_getElem? (i := 421) (by decide +kernel))) rfl
theorem gk_w_available : ∀ w ∈ ([.methodLink "MoveRowsLaw" 129 y_w_available, .static y_w_available, .initialized "MoveRowsLaw", .codeWith y_w_available b_w_available 5 (some .int) [(0, 9, 12, 21)]] : List Cond), w ∈ wG := List.forall_mem_cons.mpr ⟨kl_w_129, List.forall_mem_cons.mpr ⟨ki_w_available, List.forall_mem_cons.mpr ⟨kn_MoveRowsLaw, List.forall_mem_cons.mpr ⟨kc_w_available, fun _ h => nomatch h⟩⟩⟩⟩
theorem kl_w_131 : Cond.methodLink "MoveRowsLaw" 131 y_m_available ∈ wG := in_wG (List.mem_append_right _ (List.mem_of_getElem? (i := 611) (by decide +kernel))) rfl
theorem kl_w_132 : Cond.methodLink "MoveRowsLaw" 132 y_w_at ∈ wG := in_wG (List.mem_append_right _ (List.mem_of_getElem? (i := 428) (by decide +kernel))) rfl
theorem gk_w_at : ∀ w ∈ ([.methodLink "MoveRowsLaw" 132 y_w_at, .static y_w_at, .initialized "MoveRowsLaw", .codeWith y_w_at b_w_at 5 (some .int) [(0, 9, 12, 21)]] : List Cond), w ∈ wG := List.forall_mem_cons.mpr ⟨kl_w_132, List.forall_mem_cons.mpr ⟨ki_w_at, List.forall_mem_cons.mpr ⟨kn_MoveRowsLaw, List.forall_mem_cons.mpr ⟨kc_w_at, fun _ h => nomatch h⟩⟩⟩⟩
theorem kl_w_134 : Cond.methodLink "MoveRowsLaw" 134 y_m_at ∈ wG := in_wG (List.mem_append_right _ (List.mem_of_getElem? (i := 615) (by decide +kernel))) rfl
theorem kl_w_135 : Cond.methodLink "MoveRowsLaw" 135 y_w_row ∈ wG := in_wG (List.mem_append_right _ (List.mem_of_getElem? (i := 435) (by decide +kernel))) rfl
theorem gk_w_row : ∀ w ∈ ([.methodLink "MoveRowsLaw" 135 y_w_row, .static y_w_row, .initialized "MoveRowsLaw", .codeWith y_w_row b_w_row 6 (some .int) [(0, 12, 15, 19), (0, 12, 19, 21)]] : List Cond), w ∈ wG := List.forall_mem_cons.mpr ⟨kl_w_135, List.forall_mem_cons.mpr ⟨ki_w_row, List.forall_mem_cons.mpr ⟨kn_MoveRowsLaw, List.forall_mem_cons.mpr ⟨kc_w_row, fun _ h => nomatch h⟩⟩⟩⟩
theorem kl_w_137 : Cond.methodLink "MoveRowsLaw" 137 y_m_row ∈ wG := in_wG (List.mem_append_right _ (List.mem_of_getElem? (i := 619) (by decide +kernel))) rfl
theorem kl_w_138 : Cond.methodLink "MoveRowsLaw" 138 y_w_told ∈ wG := in_wG (List.mem_append_right _ (List.mem_of_getElem? (i := 448) (by decide +kernel))) rfl
theorem gk_w_told : ∀ w ∈ ([.methodLink "MoveRowsLaw" 138 y_w_told, .static y_w_told, .initialized "MoveRowsLaw", .codeWith y_w_told b_w_told 5 (some .int) [(0, 10, 13, 19), (0, 10, 17, 21)]] : List Cond), w ∈ wG := List.forall_mem_cons.mpr ⟨kl_w_138, List.forall_mem_cons.mpr ⟨ki_w_told, List.forall_mem_cons.mpr ⟨kn_MoveRowsLaw, List.forall_mem_cons.mpr ⟨kc_w_told, fun _ h => nomatch h⟩⟩⟩⟩
theorem kl_w_140 : Cond.methodLink "MoveRowsLaw" 140 y_m_told ∈ wG := in_wG (List.mem_append_right _ (List.mem_of_getElem? (i := 623) (by decide +kernel))) rfl
theorem kl_w_141 : Cond.methodLink "MoveRowsLaw" 141 y_w_packed ∈ wG := in_wG (List.mem_append_right _ (List.mem_of_getElem? (i := 456) (by decide +kernel))) rfl
theorem gk_w_packed : ∀ w ∈ ([.methodLink "MoveRowsLaw" 141 y_w_packed, .static y_w_packed, .initialized "MoveRowsLaw", .codeWith y_w_packed b_w_packed 5 (some .int) [(0, 9, 12, 19)]] : List Cond), w ∈ wG := List.forall_mem_cons.mpr ⟨kl_w_141, List.forall_mem_cons.mpr ⟨ki_w_packed, List.forall_mem_cons.mpr ⟨kn_MoveRowsLaw, List.forall_mem_cons.mpr ⟨kc_w_packed, fun _ h => nomatch h⟩⟩⟩⟩
theorem kl_w_143 : Cond.methodLink "MoveRowsLaw" 143 y_m_packed ∈ wG := in_wG (List.mem_append_right _ (List.mem_of_getElem? (i := 627) (by decide +kernel))) rfl
theorem kl_w_144 : Cond.methodLink "MoveRowsLaw" 144 y_count ∈ wG := in_wG (List.mem_append_right _ (List.mem_of_getElem? (i := 71) (by decide +kernel))) rfl
theorem kl_w_147 : Cond.methodLink "MoveRowsLaw" 147 y_m_count ∈ wG := in_wG (List.mem_append_right _ (List.mem_of_getElem? (i := 632) (by decide +kernel))) rfl
theorem kl_m_50 : Cond.methodLink "MoveRowsModel" 50 y_m_in ∈ wG := in_wG (List.mem_append_right _ (List.mem_of_getElem? (i := 534) (by decide +kernel))) rfl
theorem gk_m_in : ∀ w ∈ ([.methodLink "MoveRowsModel" 50 y_m_in, .static y_m_in, .initialized "MoveRowsModel", .code y_m_in b_m_in 3 (some .boolean)] : List Cond), w ∈ wG := List.forall_mem_cons.mpr ⟨kl_m_50, List.forall_mem_cons.mpr ⟨ki_m_in, List.forall_mem_cons.mpr ⟨kn_MoveRowsModel, List.forall_mem_cons.mpr ⟨kc_m_in, fun _ h => nomatch h⟩⟩⟩⟩
theorem kl_m_54 : Cond.methodLink "MoveRowsModel" 54 y_m_open ∈ wG := in_wG (List.mem_append_right _ (List.mem_of_getElem? (i := 522) (by decide +kernel))) rfl
theorem gk_m_open : ∀ w ∈ ([.methodLink "MoveRowsModel" 54 y_m_open, .instanceMethod y_m_open, .selects "MoveRowsModel" y_m_open y_m_open, .initialized "MoveRowsModel", .code y_m_open b_m_open 2 (some .int)] : List Cond), w ∈ wG := List.forall_mem_cons.mpr ⟨kl_m_54, List.forall_mem_cons.mpr ⟨ki_m_open, List.forall_mem_cons.mpr ⟨ks_m_open, List.forall_mem_cons.mpr ⟨kn_MoveRowsModel, List.forall_mem_cons.mpr ⟨kc_m_open, fun _ h => nomatch h⟩⟩⟩⟩⟩
theorem kl_m_58 : Cond.methodLink "MoveRowsModel" 58 y_m_isBatch ∈ wG := in_wG (List.mem_append_right _ (List.mem_of_getElem? (i := 530) (by decide +kernel))) rfl
theorem gk_m_isBatch : ∀ w ∈ ([.methodLink "MoveRowsModel" 58 y_m_isBatch, .instanceMethod y_m_isBatch, .selects "MoveRowsModel" y_m_isBatch y_m_isBatch, .initialized "MoveRowsModel", .code y_m_isBatch b_m_isBatch 2 (some .boolean)] : List Cond), w ∈ wG := List.forall_mem_cons.mpr ⟨kl_m_58, List.forall_mem_cons.mpr ⟨ki_m_isBatch, List.forall_mem_cons.mpr ⟨ks_m_isBatch, List.forall_mem_cons.mpr ⟨kn_MoveRowsModel, List.forall_mem_cons.mpr ⟨kc_m_isBatch, fun _ h => nomatch h⟩⟩⟩⟩⟩
theorem kl_m_64 : Cond.methodLink "MoveRowsModel" 64 y_m_put ∈ wG := in_wG (List.mem_append_right _ (List.mem_of_getElem? (i := 539) (by decide +kernel))) rfl
theorem gk_m_put : ∀ w ∈ ([.methodLink "MoveRowsModel" 64 y_m_put, .instanceMethod y_m_put, .selects "MoveRowsModel" y_m_put y_m_put, .initialized "MoveRowsModel", .code y_m_put b_m_put 6 none] : List Cond), w ∈ wG := List.forall_mem_cons.mpr ⟨kl_m_64, List.forall_mem_cons.mpr ⟨ki_m_put, List.forall_mem_cons.mpr ⟨ks_m_put, List.forall_mem_cons.mpr ⟨kn_MoveRowsModel, List.forall_mem_cons.mpr ⟨kc_m_put, fun _ h => nomatch h⟩⟩⟩⟩⟩
theorem kl_m_68 : Cond.methodLink "MoveRowsModel" 68 y_m_net ∈ wG := in_wG (List.mem_append_right _ (List.mem_of_getElem? (i := 551) (by decide +kernel))) rfl
theorem gk_m_net : ∀ w ∈ ([.methodLink "MoveRowsModel" 68 y_m_net, .instanceMethod y_m_net, .selects "MoveRowsModel" y_m_net y_m_net, .initialized "MoveRowsModel", .code y_m_net b_m_net 8 (some .long)] : List Cond), w ∈ wG := List.forall_mem_cons.mpr ⟨kl_m_68, List.forall_mem_cons.mpr ⟨ki_m_net, List.forall_mem_cons.mpr ⟨ks_m_net, List.forall_mem_cons.mpr ⟨kn_MoveRowsModel, List.forall_mem_cons.mpr ⟨kc_m_net, fun _ h => nomatch h⟩⟩⟩⟩⟩
theorem kl_m_75 : Cond.methodLink "MoveRowsModel" 75 y_m_stockAt ∈ wG := in_wG (List.mem_append_right _ (List.mem_of_getElem? (i := 559) (by decide +kernel))) rfl
theorem gk_m_stockAt : ∀ w ∈ ([.methodLink "MoveRowsModel" 75 y_m_stockAt, .instanceMethod y_m_stockAt, .selects "MoveRowsModel" y_m_stockAt y_m_stockAt, .initialized "MoveRowsModel", .code y_m_stockAt b_m_stockAt 7 (some .long)] : List Cond), w ∈ wG := List.forall_mem_cons.mpr ⟨kl_m_75, List.forall_mem_cons.mpr ⟨ki_m_stockAt, List.forall_mem_cons.mpr ⟨ks_m_stockAt, List.forall_mem_cons.mpr ⟨kn_MoveRowsModel, List.forall_mem_cons.mpr ⟨kc_m_stockAt, fun _ h => nomatch h⟩⟩⟩⟩⟩
theorem kl_m_78 : Cond.methodLink "MoveRowsModel" 78 y_m_held ∈ wG := in_wG (List.mem_append_right _ (List.mem_of_getElem? (i := 563) (by decide +kernel))) rfl
theorem gk_m_held : ∀ w ∈ ([.methodLink "MoveRowsModel" 78 y_m_held, .instanceMethod y_m_held, .selects "MoveRowsModel" y_m_held y_m_held, .initialized "MoveRowsModel", .code y_m_held b_m_held 9 (some .long)] : List Cond), w ∈ wG := List.forall_mem_cons.mpr ⟨kl_m_78, List.forall_mem_cons.mpr ⟨ki_m_held, List.forall_mem_cons.mpr ⟨ks_m_held, List.forall_mem_cons.mpr ⟨kn_MoveRowsModel, List.forall_mem_cons.mpr ⟨kc_m_held, fun _ h => nomatch h⟩⟩⟩⟩⟩
theorem kl_m_81 : Cond.methodLink "MoveRowsModel" 81 y_m_isSound ∈ wG := in_wG (List.mem_append_right _ (List.mem_of_getElem? (i := 547) (by decide +kernel))) rfl
theorem gk_m_isSound : ∀ w ∈ ([.methodLink "MoveRowsModel" 81 y_m_isSound, .instanceMethod y_m_isSound, .selects "MoveRowsModel" y_m_isSound y_m_isSound, .initialized "MoveRowsModel", .code y_m_isSound b_m_isSound 4 (some .boolean)] : List Cond), w ∈ wG := List.forall_mem_cons.mpr ⟨kl_m_81, List.forall_mem_cons.mpr ⟨ki_m_isSound, List.forall_mem_cons.mpr ⟨ks_m_isSound, List.forall_mem_cons.mpr ⟨kn_MoveRowsModel, List.forall_mem_cons.mpr ⟨kc_m_isSound, fun _ h => nomatch h⟩⟩⟩⟩⟩
theorem kl_m_84 : Cond.methodLink "MoveRowsModel" 84 y_m_isCovered ∈ wG := in_wG (List.mem_append_right _ (List.mem_of_getElem? (i := 555) (by decide +kernel))) rfl
theorem gk_m_isCovered : ∀ w ∈ ([.methodLink "MoveRowsModel" 84 y_m_isCovered, .instanceMethod y_m_isCovered, .selects "MoveRowsModel" y_m_isCovered y_m_isCovered, .initialized "MoveRowsModel", .code y_m_isCovered b_m_isCovered 8 (some .boolean)] : List Cond), w ∈ wG := List.forall_mem_cons.mpr ⟨kl_m_84, List.forall_mem_cons.mpr ⟨ki_m_isCovered, List.forall_mem_cons.mpr ⟨ks_m_isCovered, List.forall_mem_cons.mpr ⟨kn_MoveRowsModel, List.forall_mem_cons.mpr ⟨kc_m_isCovered, fun _ h => nomatch h⟩⟩⟩⟩⟩
theorem kl_m_88 : Cond.methodLink "MoveRowsModel" 88 y_m_enter ∈ wG := in_wG (List.mem_append_right _ (List.mem_of_getElem? (i := 579) (by decide +kernel))) rfl
theorem gk_m_enter : ∀ w ∈ ([.methodLink "MoveRowsModel" 88 y_m_enter, .instanceMethod y_m_enter, .selects "MoveRowsModel" y_m_enter y_m_enter, .initialized "MoveRowsModel", .code y_m_enter b_m_enter 3 none] : List Cond), w ∈ wG := List.forall_mem_cons.mpr ⟨kl_m_88, List.forall_mem_cons.mpr ⟨ki_m_enter, List.forall_mem_cons.mpr ⟨ks_m_enter, List.forall_mem_cons.mpr ⟨kn_MoveRowsModel, List.forall_mem_cons.mpr ⟨kc_m_enter, fun _ h => nomatch h⟩⟩⟩⟩⟩
theorem kl_m_92 : Cond.methodLink "MoveRowsModel" 92 y_m_reversed ∈ wG := in_wG (List.mem_append_right _ (List.mem_of_getElem? (i := 587) (by decide +kernel))) rfl
theorem gk_m_reversed : ∀ w ∈ ([.methodLink "MoveRowsModel" 92 y_m_reversed, .instanceMethod y_m_reversed, .selects "MoveRowsModel" y_m_reversed y_m_reversed, .initialized "MoveRowsModel", .code y_m_reversed b_m_reversed 5 (some .boolean)] : List Cond), w ∈ wG := List.forall_mem_cons.mpr ⟨kl_m_92, List.forall_mem_cons.mpr ⟨ki_m_reversed, List.forall_mem_cons.mpr ⟨ks_m_reversed, List.forall_mem_cons.mpr ⟨kn_MoveRowsModel, List.forall_mem_cons.mpr ⟨kc_m_reversed, fun _ h => nomatch h⟩⟩⟩⟩⟩
theorem hd_batch : y_batch.cls = "MoveRows" ∧ y_batch.cls ≠ "java/lang/invoke/MethodHandle" ∧ y_batch.cls ≠ "java/lang/invoke/VarHandle" ∧ (parseMethodDescriptor y_batch.desc).map (fun d => d.parameters.length) = some 0 := by decide +kernel
theorem hd_entry : y_entry.cls = "MoveRows" ∧ y_entry.cls ≠ "java/lang/invoke/MethodHandle" ∧ y_entry.cls ≠ "java/lang/invoke/VarHandle" ∧ (parseMethodDescriptor y_entry.desc).map (fun d => d.parameters.length) = some 4 := by decide +kernel
theorem hd_hold : y_hold.cls = "MoveRows" ∧ y_hold.cls ≠ "java/lang/invoke/MethodHandle" ∧ y_hold.cls ≠ "java/lang/invoke/VarHandle" ∧ (parseMethodDescriptor y_hold.desc).map (fun d => d.parameters.length) = some 1 := by decide +kernel
theorem hd_free : y_free.cls = "MoveRows" ∧ y_free.cls ≠ "java/lang/invoke/MethodHandle" ∧ y_free.cls ≠ "java/lang/invoke/VarHandle" ∧ (parseMethodDescriptor y_free.desc).map (fun d => d.parameters.length) = some 1 := by decide +kernel
theorem hd_drop : y_drop.cls = "MoveRows" ∧ y_drop.cls ≠ "java/lang/invoke/MethodHandle" ∧ y_drop.cls ≠ "java/lang/invoke/VarHandle" ∧ (parseMethodDescriptor y_drop.desc).map (fun d => d.parameters.length) = some 1 := by decide +kernel
theorem hd_post : y_post.cls = "MoveRows" ∧ y_post.cls ≠ "java/lang/invoke/MethodHandle" ∧ y_post.cls ≠ "java/lang/invoke/VarHandle" ∧ (parseMethodDescriptor y_post.desc).map (fun d => d.parameters.length) = some 2 := by decide +kernel
theorem hd_reverse : y_reverse.cls = "MoveRows" ∧ y_reverse.cls ≠ "java/lang/invoke/MethodHandle" ∧ y_reverse.cls ≠ "java/lang/invoke/VarHandle" ∧ (parseMethodDescriptor y_reverse.desc).map (fun d => d.parameters.length) = some 2 := by decide +kernel
theorem hd_undo : y_undo.cls = "MoveRows" ∧ y_undo.cls ≠ "java/lang/invoke/MethodHandle" ∧ y_undo.cls ≠ "java/lang/invoke/VarHandle" ∧ (parseMethodDescriptor y_undo.desc).map (fun d => d.parameters.length) = some 1 := by decide +kernel
theorem hd_close : y_close.cls = "MoveRows" ∧ y_close.cls ≠ "java/lang/invoke/MethodHandle" ∧ y_close.cls ≠ "java/lang/invoke/VarHandle" ∧ (parseMethodDescriptor y_close.desc).map (fun d => d.parameters.length) = some 1 := by decide +kernel
theorem hd_carry : y_carry.cls = "MoveRows" ∧ y_carry.cls ≠ "java/lang/invoke/MethodHandle" ∧ y_carry.cls ≠ "java/lang/invoke/VarHandle" ∧ (parseMethodDescriptor y_carry.desc).map (fun d => d.parameters.length) = some 2 := by decide +kernel
theorem hd_stock : y_stock.cls = "MoveRows" ∧ y_stock.cls ≠ "java/lang/invoke/MethodHandle" ∧ y_stock.cls ≠ "java/lang/invoke/VarHandle" ∧ (parseMethodDescriptor y_stock.desc).map (fun d => d.parameters.length) = some 2 := by decide +kernel
theorem hd_upTo : y_upTo.cls = "MoveRows" ∧ y_upTo.cls ≠ "java/lang/invoke/MethodHandle" ∧ y_upTo.cls ≠ "java/lang/invoke/VarHandle" ∧ (parseMethodDescriptor y_upTo.desc).map (fun d => d.parameters.length) = some 3 := by decide +kernel
theorem hd_available : y_available.cls = "MoveRows" ∧ y_available.cls ≠ "java/lang/invoke/MethodHandle" ∧ y_available.cls ≠ "java/lang/invoke/VarHandle" ∧ (parseMethodDescriptor y_available.desc).map (fun d => d.parameters.length) = some 2 := by decide +kernel
theorem hd_at : y_at.cls = "MoveRows" ∧ y_at.cls ≠ "java/lang/invoke/MethodHandle" ∧ y_at.cls ≠ "java/lang/invoke/VarHandle" ∧ (parseMethodDescriptor y_at.desc).map (fun d => d.parameters.length) = some 2 := by decide +kernel
theorem hd_row : y_row.cls = "MoveRows" ∧ y_row.cls ≠ "java/lang/invoke/MethodHandle" ∧ y_row.cls ≠ "java/lang/invoke/VarHandle" ∧ (parseMethodDescriptor y_row.desc).map (fun d => d.parameters.length) = some 3 := by decide +kernel
theorem hd_told : y_told.cls = "MoveRows" ∧ y_told.cls ≠ "java/lang/invoke/MethodHandle" ∧ y_told.cls ≠ "java/lang/invoke/VarHandle" ∧ (parseMethodDescriptor y_told.desc).map (fun d => d.parameters.length) = some 2 := by decide +kernel
theorem hd_packed : y_packed.cls = "MoveRows" ∧ y_packed.cls ≠ "java/lang/invoke/MethodHandle" ∧ y_packed.cls ≠ "java/lang/invoke/VarHandle" ∧ (parseMethodDescriptor y_packed.desc).map (fun d => d.parameters.length) = some 2 := by decide +kernel
theorem hd_count : y_count.cls = "MoveRows" ∧ y_count.cls ≠ "java/lang/invoke/MethodHandle" ∧ y_count.cls ≠ "java/lang/invoke/VarHandle" ∧ (parseMethodDescriptor y_count.desc).map (fun d => d.parameters.length) = some 1 := by decide +kernel
theorem hd_checkBatch : y_checkBatch.cls = "MoveRows" ∧ y_checkBatch.cls ≠ "java/lang/invoke/MethodHandle" ∧ y_checkBatch.cls ≠ "java/lang/invoke/VarHandle" ∧ (parseMethodDescriptor y_checkBatch.desc).map (fun d => d.parameters.length) = some 1 := by decide +kernel
theorem hd_checkAccount : y_checkAccount.cls = "MoveRows" ∧ y_checkAccount.cls ≠ "java/lang/invoke/MethodHandle" ∧ y_checkAccount.cls ≠ "java/lang/invoke/VarHandle" ∧ (parseMethodDescriptor y_checkAccount.desc).map (fun d => d.parameters.length) = some 1 := by decide +kernel
theorem hd_checkPlace : y_checkPlace.cls = "MoveRows" ∧ y_checkPlace.cls ≠ "java/lang/invoke/MethodHandle" ∧ y_checkPlace.cls ≠ "java/lang/invoke/VarHandle" ∧ (parseMethodDescriptor y_checkPlace.desc).map (fun d => d.parameters.length) = some 1 := by decide +kernel
theorem hd_checkLot : y_checkLot.cls = "MoveRows" ∧ y_checkLot.cls ≠ "java/lang/invoke/MethodHandle" ∧ y_checkLot.cls ≠ "java/lang/invoke/VarHandle" ∧ (parseMethodDescriptor y_checkLot.desc).map (fun d => d.parameters.length) = some 1 := by decide +kernel
theorem hd_checkAmount : y_checkAmount.cls = "MoveRows" ∧ y_checkAmount.cls ≠ "java/lang/invoke/MethodHandle" ∧ y_checkAmount.cls ≠ "java/lang/invoke/VarHandle" ∧ (parseMethodDescriptor y_checkAmount.desc).map (fun d => d.parameters.length) = some 1 := by decide +kernel
theorem hd_checkDay : y_checkDay.cls = "MoveRows" ∧ y_checkDay.cls ≠ "java/lang/invoke/MethodHandle" ∧ y_checkDay.cls ≠ "java/lang/invoke/VarHandle" ∧ (parseMethodDescriptor y_checkDay.desc).map (fun d => d.parameters.length) = some 1 := by decide +kernel
theorem hd_checkNotClosed : y_checkNotClosed.cls = "MoveRows" ∧ y_checkNotClosed.cls ≠ "java/lang/invoke/MethodHandle" ∧ y_checkNotClosed.cls ≠ "java/lang/invoke/VarHandle" ∧ (parseMethodDescriptor y_checkNotClosed.desc).map (fun d => d.parameters.length) = some 1 := by decide +kernel
theorem hd_checkOpenOrHeld : y_checkOpenOrHeld.cls = "MoveRows" ∧ y_checkOpenOrHeld.cls ≠ "java/lang/invoke/MethodHandle" ∧ y_checkOpenOrHeld.cls ≠ "java/lang/invoke/VarHandle" ∧ (parseMethodDescriptor y_checkOpenOrHeld.desc).map (fun d => d.parameters.length) = some 1 := by decide +kernel
theorem hd_checkSound : y_checkSound.cls = "MoveRows" ∧ y_checkSound.cls ≠ "java/lang/invoke/MethodHandle" ∧ y_checkSound.cls ≠ "java/lang/invoke/VarHandle" ∧ (parseMethodDescriptor y_checkSound.desc).map (fun d => d.parameters.length) = some 1 := by decide +kernel
theorem hd_checkEnoughFree : y_checkEnoughFree.cls = "MoveRows" ∧ y_checkEnoughFree.cls ≠ "java/lang/invoke/MethodHandle" ∧ y_checkEnoughFree.cls ≠ "java/lang/invoke/VarHandle" ∧ (parseMethodDescriptor y_checkEnoughFree.desc).map (fun d => d.parameters.length) = some 2 := by decide +kernel
theorem hd_hasRoomFor : y_hasRoomFor.cls = "MoveRows" ∧ y_hasRoomFor.cls ≠ "java/lang/invoke/MethodHandle" ∧ y_hasRoomFor.cls ≠ "java/lang/invoke/VarHandle" ∧ (parseMethodDescriptor y_hasRoomFor.desc).map (fun d => d.parameters.length) = some 1 := by decide +kernel
theorem hd_isSound : y_isSound.cls = "MoveRows" ∧ y_isSound.cls ≠ "java/lang/invoke/MethodHandle" ∧ y_isSound.cls ≠ "java/lang/invoke/VarHandle" ∧ (parseMethodDescriptor y_isSound.desc).map (fun d => d.parameters.length) = some 1 := by decide +kernel
theorem hd_sumOfLot : y_sumOfLot.cls = "MoveRows" ∧ y_sumOfLot.cls ≠ "java/lang/invoke/MethodHandle" ∧ y_sumOfLot.cls ≠ "java/lang/invoke/VarHandle" ∧ (parseMethodDescriptor y_sumOfLot.desc).map (fun d => d.parameters.length) = some 2 := by decide +kernel
theorem hd_netOfCell : y_netOfCell.cls = "MoveRows" ∧ y_netOfCell.cls ≠ "java/lang/invoke/MethodHandle" ∧ y_netOfCell.cls ≠ "java/lang/invoke/VarHandle" ∧ (parseMethodDescriptor y_netOfCell.desc).map (fun d => d.parameters.length) = some 2 := by decide +kernel
theorem hd_sumOfAllLots : y_sumOfAllLots.cls = "MoveRows" ∧ y_sumOfAllLots.cls ≠ "java/lang/invoke/MethodHandle" ∧ y_sumOfAllLots.cls ≠ "java/lang/invoke/VarHandle" ∧ (parseMethodDescriptor y_sumOfAllLots.desc).map (fun d => d.parameters.length) = some 1 := by decide +kernel
theorem hd_cellOf : y_cellOf.cls = "MoveRows" ∧ y_cellOf.cls ≠ "java/lang/invoke/MethodHandle" ∧ y_cellOf.cls ≠ "java/lang/invoke/VarHandle" ∧ (parseMethodDescriptor y_cellOf.desc).map (fun d => d.parameters.length) = some 2 := by decide +kernel
theorem hd_slotOf : y_slotOf.cls = "MoveRows" ∧ y_slotOf.cls ≠ "java/lang/invoke/MethodHandle" ∧ y_slotOf.cls ≠ "java/lang/invoke/VarHandle" ∧ (parseMethodDescriptor y_slotOf.desc).map (fun d => d.parameters.length) = some 2 := by decide +kernel
theorem hd_freeOf : y_freeOf.cls = "MoveRows" ∧ y_freeOf.cls ≠ "java/lang/invoke/MethodHandle" ∧ y_freeOf.cls ≠ "java/lang/invoke/VarHandle" ∧ (parseMethodDescriptor y_freeOf.desc).map (fun d => d.parameters.length) = some 1 := by decide +kernel
theorem hd_clearNet : y_clearNet.cls = "MoveRows" ∧ y_clearNet.cls ≠ "java/lang/invoke/MethodHandle" ∧ y_clearNet.cls ≠ "java/lang/invoke/VarHandle" ∧ (parseMethodDescriptor y_clearNet.desc).map (fun d => d.parameters.length) = some 0 := by decide +kernel
theorem hd_addToNet : y_addToNet.cls = "MoveRows" ∧ y_addToNet.cls ≠ "java/lang/invoke/MethodHandle" ∧ y_addToNet.cls ≠ "java/lang/invoke/VarHandle" ∧ (parseMethodDescriptor y_addToNet.desc).map (fun d => d.parameters.length) = some 2 := by decide +kernel
theorem hd_isNetCovered : y_isNetCovered.cls = "MoveRows" ∧ y_isNetCovered.cls ≠ "java/lang/invoke/MethodHandle" ∧ y_isNetCovered.cls ≠ "java/lang/invoke/VarHandle" ∧ (parseMethodDescriptor y_isNetCovered.desc).map (fun d => d.parameters.length) = some 0 := by decide +kernel
theorem hd_changeHolds : y_changeHolds.cls = "MoveRows" ∧ y_changeHolds.cls ≠ "java/lang/invoke/MethodHandle" ∧ y_changeHolds.cls ≠ "java/lang/invoke/VarHandle" ∧ (parseMethodDescriptor y_changeHolds.desc).map (fun d => d.parameters.length) = some 2 := by decide +kernel
theorem hd_addBatch : y_addBatch.cls = "MoveRows" ∧ y_addBatch.cls ≠ "java/lang/invoke/MethodHandle" ∧ y_addBatch.cls ≠ "java/lang/invoke/VarHandle" ∧ (parseMethodDescriptor y_addBatch.desc).map (fun d => d.parameters.length) = some 0 := by decide +kernel
theorem hd_addEntry : y_addEntry.cls = "MoveRows" ∧ y_addEntry.cls ≠ "java/lang/invoke/MethodHandle" ∧ y_addEntry.cls ≠ "java/lang/invoke/VarHandle" ∧ (parseMethodDescriptor y_addEntry.desc).map (fun d => d.parameters.length) = some 3 := by decide +kernel
theorem hd_postEntries : y_postEntries.cls = "MoveRows" ∧ y_postEntries.cls ≠ "java/lang/invoke/MethodHandle" ∧ y_postEntries.cls ≠ "java/lang/invoke/VarHandle" ∧ (parseMethodDescriptor y_postEntries.desc).map (fun d => d.parameters.length) = some 2 := by decide +kernel
theorem hd_postReversal : y_postReversal.cls = "MoveRows" ∧ y_postReversal.cls ≠ "java/lang/invoke/MethodHandle" ∧ y_postReversal.cls ≠ "java/lang/invoke/VarHandle" ∧ (parseMethodDescriptor y_postReversal.desc).map (fun d => d.parameters.length) = some 2 := by decide +kernel
theorem hd_isUndoable : y_isUndoable.cls = "MoveRows" ∧ y_isUndoable.cls ≠ "java/lang/invoke/MethodHandle" ∧ y_isUndoable.cls ≠ "java/lang/invoke/VarHandle" ∧ (parseMethodDescriptor y_isUndoable.desc).map (fun d => d.parameters.length) = some 2 := by decide +kernel
theorem hd_countUndoable : y_countUndoable.cls = "MoveRows" ∧ y_countUndoable.cls ≠ "java/lang/invoke/MethodHandle" ∧ y_countUndoable.cls ≠ "java/lang/invoke/VarHandle" ∧ (parseMethodDescriptor y_countUndoable.desc).map (fun d => d.parameters.length) = some 1 := by decide +kernel
theorem hd_isEnoughFreeToUndo : y_isEnoughFreeToUndo.cls = "MoveRows" ∧ y_isEnoughFreeToUndo.cls ≠ "java/lang/invoke/MethodHandle" ∧ y_isEnoughFreeToUndo.cls ≠ "java/lang/invoke/VarHandle" ∧ (parseMethodDescriptor y_isEnoughFreeToUndo.desc).map (fun d => d.parameters.length) = some 1 := by decide +kernel
theorem hd_findPostedSlot : y_findPostedSlot.cls = "MoveRows" ∧ y_findPostedSlot.cls ≠ "java/lang/invoke/MethodHandle" ∧ y_findPostedSlot.cls ≠ "java/lang/invoke/VarHandle" ∧ (parseMethodDescriptor y_findPostedSlot.desc).map (fun d => d.parameters.length) = some 2 := by decide +kernel
theorem hd_countPostedEntries : y_countPostedEntries.cls = "MoveRows" ∧ y_countPostedEntries.cls ≠ "java/lang/invoke/MethodHandle" ∧ y_countPostedEntries.cls ≠ "java/lang/invoke/VarHandle" ∧ (parseMethodDescriptor y_countPostedEntries.desc).map (fun d => d.parameters.length) = some 0 := by decide +kernel
theorem hd_countHeld : y_countHeld.cls = "MoveRows" ∧ y_countHeld.cls ≠ "java/lang/invoke/MethodHandle" ∧ y_countHeld.cls ≠ "java/lang/invoke/VarHandle" ∧ (parseMethodDescriptor y_countHeld.desc).map (fun d => d.parameters.length) = some 0 := by decide +kernel
theorem hd_m_thrown : y_m_thrown.cls = "MoveRowsModel" ∧ y_m_thrown.cls ≠ "java/lang/invoke/MethodHandle" ∧ y_m_thrown.cls ≠ "java/lang/invoke/VarHandle" ∧ (parseMethodDescriptor y_m_thrown.desc).map (fun d => d.parameters.length) = some 0 := by decide +kernel
theorem hd_m_in : y_m_in.cls = "MoveRowsModel" ∧ y_m_in.cls ≠ "java/lang/invoke/MethodHandle" ∧ y_m_in.cls ≠ "java/lang/invoke/VarHandle" ∧ (parseMethodDescriptor y_m_in.desc).map (fun d => d.parameters.length) = some 3 := by decide +kernel
theorem hd_m_isBatch : y_m_isBatch.cls = "MoveRowsModel" ∧ y_m_isBatch.cls ≠ "java/lang/invoke/MethodHandle" ∧ y_m_isBatch.cls ≠ "java/lang/invoke/VarHandle" ∧ (parseMethodDescriptor y_m_isBatch.desc).map (fun d => d.parameters.length) = some 1 := by decide +kernel
theorem hd_m_batch : y_m_batch.cls = "MoveRowsModel" ∧ y_m_batch.cls ≠ "java/lang/invoke/MethodHandle" ∧ y_m_batch.cls ≠ "java/lang/invoke/VarHandle" ∧ (parseMethodDescriptor y_m_batch.desc).map (fun d => d.parameters.length) = some 0 := by decide +kernel
theorem hd_m_open : y_m_open.cls = "MoveRowsModel" ∧ y_m_open.cls ≠ "java/lang/invoke/MethodHandle" ∧ y_m_open.cls ≠ "java/lang/invoke/VarHandle" ∧ (parseMethodDescriptor y_m_open.desc).map (fun d => d.parameters.length) = some 0 := by decide +kernel
theorem hd_m_entry : y_m_entry.cls = "MoveRowsModel" ∧ y_m_entry.cls ≠ "java/lang/invoke/MethodHandle" ∧ y_m_entry.cls ≠ "java/lang/invoke/VarHandle" ∧ (parseMethodDescriptor y_m_entry.desc).map (fun d => d.parameters.length) = some 4 := by decide +kernel
theorem hd_m_put : y_m_put.cls = "MoveRowsModel" ∧ y_m_put.cls ≠ "java/lang/invoke/MethodHandle" ∧ y_m_put.cls ≠ "java/lang/invoke/VarHandle" ∧ (parseMethodDescriptor y_m_put.desc).map (fun d => d.parameters.length) = some 4 := by decide +kernel
theorem hd_m_net : y_m_net.cls = "MoveRowsModel" ∧ y_m_net.cls ≠ "java/lang/invoke/MethodHandle" ∧ y_m_net.cls ≠ "java/lang/invoke/VarHandle" ∧ (parseMethodDescriptor y_m_net.desc).map (fun d => d.parameters.length) = some 3 := by decide +kernel
theorem hd_m_isSound : y_m_isSound.cls = "MoveRowsModel" ∧ y_m_isSound.cls ≠ "java/lang/invoke/MethodHandle" ∧ y_m_isSound.cls ≠ "java/lang/invoke/VarHandle" ∧ (parseMethodDescriptor y_m_isSound.desc).map (fun d => d.parameters.length) = some 1 := by decide +kernel
theorem hd_m_stockAt : y_m_stockAt.cls = "MoveRowsModel" ∧ y_m_stockAt.cls ≠ "java/lang/invoke/MethodHandle" ∧ y_m_stockAt.cls ≠ "java/lang/invoke/VarHandle" ∧ (parseMethodDescriptor y_m_stockAt.desc).map (fun d => d.parameters.length) = some 3 := by decide +kernel
theorem hd_m_held : y_m_held.cls = "MoveRowsModel" ∧ y_m_held.cls ≠ "java/lang/invoke/MethodHandle" ∧ y_m_held.cls ≠ "java/lang/invoke/VarHandle" ∧ (parseMethodDescriptor y_m_held.desc).map (fun d => d.parameters.length) = some 3 := by decide +kernel
theorem hd_m_isCovered : y_m_isCovered.cls = "MoveRowsModel" ∧ y_m_isCovered.cls ≠ "java/lang/invoke/MethodHandle" ∧ y_m_isCovered.cls ≠ "java/lang/invoke/VarHandle" ∧ (parseMethodDescriptor y_m_isCovered.desc).map (fun d => d.parameters.length) = some 3 := by decide +kernel
theorem hd_m_hold : y_m_hold.cls = "MoveRowsModel" ∧ y_m_hold.cls ≠ "java/lang/invoke/MethodHandle" ∧ y_m_hold.cls ≠ "java/lang/invoke/VarHandle" ∧ (parseMethodDescriptor y_m_hold.desc).map (fun d => d.parameters.length) = some 1 := by decide +kernel
theorem hd_m_free : y_m_free.cls = "MoveRowsModel" ∧ y_m_free.cls ≠ "java/lang/invoke/MethodHandle" ∧ y_m_free.cls ≠ "java/lang/invoke/VarHandle" ∧ (parseMethodDescriptor y_m_free.desc).map (fun d => d.parameters.length) = some 1 := by decide +kernel
theorem hd_m_drop : y_m_drop.cls = "MoveRowsModel" ∧ y_m_drop.cls ≠ "java/lang/invoke/MethodHandle" ∧ y_m_drop.cls ≠ "java/lang/invoke/VarHandle" ∧ (parseMethodDescriptor y_m_drop.desc).map (fun d => d.parameters.length) = some 1 := by decide +kernel
theorem hd_m_enter : y_m_enter.cls = "MoveRowsModel" ∧ y_m_enter.cls ≠ "java/lang/invoke/MethodHandle" ∧ y_m_enter.cls ≠ "java/lang/invoke/VarHandle" ∧ (parseMethodDescriptor y_m_enter.desc).map (fun d => d.parameters.length) = some 2 := by decide +kernel
theorem hd_m_post : y_m_post.cls = "MoveRowsModel" ∧ y_m_post.cls ≠ "java/lang/invoke/MethodHandle" ∧ y_m_post.cls ≠ "java/lang/invoke/VarHandle" ∧ (parseMethodDescriptor y_m_post.desc).map (fun d => d.parameters.length) = some 2 := by decide +kernel
theorem hd_m_reversed : y_m_reversed.cls = "MoveRowsModel" ∧ y_m_reversed.cls ≠ "java/lang/invoke/MethodHandle" ∧ y_m_reversed.cls ≠ "java/lang/invoke/VarHandle" ∧ (parseMethodDescriptor y_m_reversed.desc).map (fun d => d.parameters.length) = some 2 := by decide +kernel
theorem hd_m_reverse : y_m_reverse.cls = "MoveRowsModel" ∧ y_m_reverse.cls ≠ "java/lang/invoke/MethodHandle" ∧ y_m_reverse.cls ≠ "java/lang/invoke/VarHandle" ∧ (parseMethodDescriptor y_m_reverse.desc).map (fun d => d.parameters.length) = some 2 := by decide +kernel
theorem hd_m_undo : y_m_undo.cls = "MoveRowsModel" ∧ y_m_undo.cls ≠ "java/lang/invoke/MethodHandle" ∧ y_m_undo.cls ≠ "java/lang/invoke/VarHandle" ∧ (parseMethodDescriptor y_m_undo.desc).map (fun d => d.parameters.length) = some 1 := by decide +kernel
theorem hd_m_close : y_m_close.cls = "MoveRowsModel" ∧ y_m_close.cls ≠ "java/lang/invoke/MethodHandle" ∧ y_m_close.cls ≠ "java/lang/invoke/VarHandle" ∧ (parseMethodDescriptor y_m_close.desc).map (fun d => d.parameters.length) = some 1 := by decide +kernel
theorem hd_m_carry : y_m_carry.cls = "MoveRowsModel" ∧ y_m_carry.cls ≠ "java/lang/invoke/MethodHandle" ∧ y_m_carry.cls ≠ "java/lang/invoke/VarHandle" ∧ (parseMethodDescriptor y_m_carry.desc).map (fun d => d.parameters.length) = some 2 := by decide +kernel
theorem hd_m_stock : y_m_stock.cls = "MoveRowsModel" ∧ y_m_stock.cls ≠ "java/lang/invoke/MethodHandle" ∧ y_m_stock.cls ≠ "java/lang/invoke/VarHandle" ∧ (parseMethodDescriptor y_m_stock.desc).map (fun d => d.parameters.length) = some 2 := by decide +kernel
theorem hd_m_upTo : y_m_upTo.cls = "MoveRowsModel" ∧ y_m_upTo.cls ≠ "java/lang/invoke/MethodHandle" ∧ y_m_upTo.cls ≠ "java/lang/invoke/VarHandle" ∧ (parseMethodDescriptor y_m_upTo.desc).map (fun d => d.parameters.length) = some 3 := by decide +kernel
theorem hd_m_available : y_m_available.cls = "MoveRowsModel" ∧ y_m_available.cls ≠ "java/lang/invoke/MethodHandle" ∧ y_m_available.cls ≠ "java/lang/invoke/VarHandle" ∧ (parseMethodDescriptor y_m_available.desc).map (fun d => d.parameters.length) = some 2 := by decide +kernel
theorem hd_m_at : y_m_at.cls = "MoveRowsModel" ∧ y_m_at.cls ≠ "java/lang/invoke/MethodHandle" ∧ y_m_at.cls ≠ "java/lang/invoke/VarHandle" ∧ (parseMethodDescriptor y_m_at.desc).map (fun d => d.parameters.length) = some 2 := by decide +kernel
theorem hd_m_row : y_m_row.cls = "MoveRowsModel" ∧ y_m_row.cls ≠ "java/lang/invoke/MethodHandle" ∧ y_m_row.cls ≠ "java/lang/invoke/VarHandle" ∧ (parseMethodDescriptor y_m_row.desc).map (fun d => d.parameters.length) = some 3 := by decide +kernel
theorem hd_m_told : y_m_told.cls = "MoveRowsModel" ∧ y_m_told.cls ≠ "java/lang/invoke/MethodHandle" ∧ y_m_told.cls ≠ "java/lang/invoke/VarHandle" ∧ (parseMethodDescriptor y_m_told.desc).map (fun d => d.parameters.length) = some 2 := by decide +kernel
theorem hd_m_packed : y_m_packed.cls = "MoveRowsModel" ∧ y_m_packed.cls ≠ "java/lang/invoke/MethodHandle" ∧ y_m_packed.cls ≠ "java/lang/invoke/VarHandle" ∧ (parseMethodDescriptor y_m_packed.desc).map (fun d => d.parameters.length) = some 2 := by decide +kernel
theorem hd_m_count : y_m_count.cls = "MoveRowsModel" ∧ y_m_count.cls ≠ "java/lang/invoke/MethodHandle" ∧ y_m_count.cls ≠ "java/lang/invoke/VarHandle" ∧ (parseMethodDescriptor y_m_count.desc).map (fun d => d.parameters.length) = some 1 := by decide +kernel
theorem hd_w_batch : y_w_batch.cls = "MoveRowsLaw" ∧ y_w_batch.cls ≠ "java/lang/invoke/MethodHandle" ∧ y_w_batch.cls ≠ "java/lang/invoke/VarHandle" ∧ (parseMethodDescriptor y_w_batch.desc).map (fun d => d.parameters.length) = some 2 := by decide +kernel
theorem hd_w_entry : y_w_entry.cls = "MoveRowsLaw" ∧ y_w_entry.cls ≠ "java/lang/invoke/MethodHandle" ∧ y_w_entry.cls ≠ "java/lang/invoke/VarHandle" ∧ (parseMethodDescriptor y_w_entry.desc).map (fun d => d.parameters.length) = some 6 := by decide +kernel
theorem hd_w_hold : y_w_hold.cls = "MoveRowsLaw" ∧ y_w_hold.cls ≠ "java/lang/invoke/MethodHandle" ∧ y_w_hold.cls ≠ "java/lang/invoke/VarHandle" ∧ (parseMethodDescriptor y_w_hold.desc).map (fun d => d.parameters.length) = some 2 := by decide +kernel
theorem hd_w_free : y_w_free.cls = "MoveRowsLaw" ∧ y_w_free.cls ≠ "java/lang/invoke/MethodHandle" ∧ y_w_free.cls ≠ "java/lang/invoke/VarHandle" ∧ (parseMethodDescriptor y_w_free.desc).map (fun d => d.parameters.length) = some 2 := by decide +kernel
theorem hd_w_drop : y_w_drop.cls = "MoveRowsLaw" ∧ y_w_drop.cls ≠ "java/lang/invoke/MethodHandle" ∧ y_w_drop.cls ≠ "java/lang/invoke/VarHandle" ∧ (parseMethodDescriptor y_w_drop.desc).map (fun d => d.parameters.length) = some 2 := by decide +kernel
theorem hd_w_post : y_w_post.cls = "MoveRowsLaw" ∧ y_w_post.cls ≠ "java/lang/invoke/MethodHandle" ∧ y_w_post.cls ≠ "java/lang/invoke/VarHandle" ∧ (parseMethodDescriptor y_w_post.desc).map (fun d => d.parameters.length) = some 3 := by decide +kernel
theorem hd_w_reverse : y_w_reverse.cls = "MoveRowsLaw" ∧ y_w_reverse.cls ≠ "java/lang/invoke/MethodHandle" ∧ y_w_reverse.cls ≠ "java/lang/invoke/VarHandle" ∧ (parseMethodDescriptor y_w_reverse.desc).map (fun d => d.parameters.length) = some 4 := by decide +kernel
theorem hd_w_undo : y_w_undo.cls = "MoveRowsLaw" ∧ y_w_undo.cls ≠ "java/lang/invoke/MethodHandle" ∧ y_w_undo.cls ≠ "java/lang/invoke/VarHandle" ∧ (parseMethodDescriptor y_w_undo.desc).map (fun d => d.parameters.length) = some 3 := by decide +kernel
theorem hd_w_close : y_w_close.cls = "MoveRowsLaw" ∧ y_w_close.cls ≠ "java/lang/invoke/MethodHandle" ∧ y_w_close.cls ≠ "java/lang/invoke/VarHandle" ∧ (parseMethodDescriptor y_w_close.desc).map (fun d => d.parameters.length) = some 3 := by decide +kernel
theorem hd_w_carry : y_w_carry.cls = "MoveRowsLaw" ∧ y_w_carry.cls ≠ "java/lang/invoke/MethodHandle" ∧ y_w_carry.cls ≠ "java/lang/invoke/VarHandle" ∧ (parseMethodDescriptor y_w_carry.desc).map (fun d => d.parameters.length) = some 4 := by decide +kernel
theorem hd_w_stock : y_w_stock.cls = "MoveRowsLaw" ∧ y_w_stock.cls ≠ "java/lang/invoke/MethodHandle" ∧ y_w_stock.cls ≠ "java/lang/invoke/VarHandle" ∧ (parseMethodDescriptor y_w_stock.desc).map (fun d => d.parameters.length) = some 4 := by decide +kernel
theorem hd_w_upTo : y_w_upTo.cls = "MoveRowsLaw" ∧ y_w_upTo.cls ≠ "java/lang/invoke/MethodHandle" ∧ y_w_upTo.cls ≠ "java/lang/invoke/VarHandle" ∧ (parseMethodDescriptor y_w_upTo.desc).map (fun d => d.parameters.length) = some 5 := by decide +kernel
theorem hd_w_available : y_w_available.cls = "MoveRowsLaw" ∧ y_w_available.cls ≠ "java/lang/invoke/MethodHandle" ∧ y_w_available.cls ≠ "java/lang/invoke/VarHandle" ∧ (parseMethodDescriptor y_w_available.desc).map (fun d => d.parameters.length) = some 4 := by decide +kernel
theorem hd_w_at : y_w_at.cls = "MoveRowsLaw" ∧ y_w_at.cls ≠ "java/lang/invoke/MethodHandle" ∧ y_w_at.cls ≠ "java/lang/invoke/VarHandle" ∧ (parseMethodDescriptor y_w_at.desc).map (fun d => d.parameters.length) = some 4 := by decide +kernel
theorem hd_w_row : y_w_row.cls = "MoveRowsLaw" ∧ y_w_row.cls ≠ "java/lang/invoke/MethodHandle" ∧ y_w_row.cls ≠ "java/lang/invoke/VarHandle" ∧ (parseMethodDescriptor y_w_row.desc).map (fun d => d.parameters.length) = some 5 := by decide +kernel
theorem hd_w_told : y_w_told.cls = "MoveRowsLaw" ∧ y_w_told.cls ≠ "java/lang/invoke/MethodHandle" ∧ y_w_told.cls ≠ "java/lang/invoke/VarHandle" ∧ (parseMethodDescriptor y_w_told.desc).map (fun d => d.parameters.length) = some 4 := by decide +kernel
theorem hd_w_packed : y_w_packed.cls = "MoveRowsLaw" ∧ y_w_packed.cls ≠ "java/lang/invoke/MethodHandle" ∧ y_w_packed.cls ≠ "java/lang/invoke/VarHandle" ∧ (parseMethodDescriptor y_w_packed.desc).map (fun d => d.parameters.length) = some 4 := by decide +kernel
theorem hd_fillI : y_fillI.cls ≠ "java/lang/invoke/MethodHandle" ∧ y_fillI.cls ≠ "java/lang/invoke/VarHandle" ∧ (parseMethodDescriptor y_fillI.desc).map (fun d => d.parameters.length) = some 2 := by decide +kernel
theorem hd_fillL : y_fillL.cls ≠ "java/lang/invoke/MethodHandle" ∧ y_fillL.cls ≠ "java/lang/invoke/VarHandle" ∧ (parseMethodDescriptor y_fillL.desc).map (fun d => d.parameters.length) = some 2 := by decide +kernel
theorem ck_211 : Cond.constant "MoveRows" 211 (-1000000 : Int32) ∈ wG := in_wG (List.mem_append_right _ (List.mem_of_getElem? (i := 224) (by decide +kernel))) rfl
theorem ck_212 : Cond.constant "MoveRows" 212 (1000000 : Int32) ∈ wG := in_wG (List.mem_append_right _ (List.mem_of_getElem? (i := 225) (by decide +kernel))) rfl
theorem ck_195 : Cond.constantLong "MoveRows" 195 (128 : Int64) ∈ wG := in_wG (List.mem_append_right _ (List.mem_of_getElem? (i := 464) (by decide +kernel))) rfl
theorem ck_m_62 : Cond.constant "MoveRowsModel" 62 (-1000000 : Int32) ∈ wG := in_wG (List.mem_append_right _ (List.mem_of_getElem? (i := 537) (by decide +kernel))) rfl
theorem ck_m_63 : Cond.constant "MoveRowsModel" 63 (1000000 : Int32) ∈ wG := in_wG (List.mem_append_right _ (List.mem_of_getElem? (i := 538) (by decide +kernel))) rfl
theorem ck_m_96 : Cond.constantLong "MoveRowsModel" 96 (128 : Int64) ∈ wG := in_wG (List.mem_append_right _ (List.mem_of_getElem? (i := 631) (by decide +kernel))) rfl
theorem ka_int : Cond.arrayClass (newarray.typeOf .int) ∈ wG := in_wG (List.mem_append_right _ (List.mem_of_getElem? (i := 69) (by decide +kernel))) rfl
theorem ka_long : Cond.arrayClass (newarray.typeOf .long) ∈ wG := in_wG (List.mem_append_right _ (List.mem_of_getElem? (i := 70) (by decide +kernel))) rfl
theorem ko_inst : Cond.instanceMethod objectInit ∈ wG := in_wG (List.mem_append_right _ (List.mem_of_getElem? (i := 18) (by decide +kernel))) rfl
theorem ko_code : Cond.code objectInit ⟨#[0xb1]⟩ 1 none ∈ wG := in_wG (List.mem_append_right _ (List.mem_of_getElem? (i := 19) (by decide +kernel))) rfl
theorem ko_link : Cond.methodLink "MoveRows" 3 objectInit ∈ wG := in_wG (List.mem_append_right _ (List.mem_of_getElem? (i := 17) (by decide +kernel))) rfl
theorem ko_linkm_ : Cond.methodLink "MoveRowsModel" 1 objectInit ∈ wG := in_wG (List.mem_append_right _ (List.mem_of_getElem? (i := 470) (by decide +kernel))) rfl
