/-! LINKS: classes, methods, fields by numbers; what the words of the tables say of each (a program writes this part) -/
def ATB : List Jvm.Cond := lw_tbl.filter goodWord
theorem atb_mem {w : Jvm.Cond} (i : Nat) (h : lw_tbl[i]? = some w) (hg : goodWord w = true) : w ∈ ATB := List.mem_filter.mpr ⟨List.mem_of_getElem? h, hg⟩
theorem atb_tbl {w : Jvm.Cond} (h : w ∈ ATB) : w ∈ lw_tbl := (List.mem_filter.mp h).1
theorem atb_good {w : Jvm.Cond} (h : w ∈ ATB) : (w.onTables && w.keeps) = true ∨ ∃ ty, w = .arrayClass ty := good_of_word (List.mem_filter.mp h).2
def cn (o : Nat) : String := match o with
  | 0 => RX0
  | 1 => RX1
  | 2 => RX2
  | 3 => RX3
  | 4 => RX4
  | 5 => RX5
  | 6 => RX6
  | 7 => RX7
  | 8 => RX8
  | 9 => RX9
  | 10 => RX10
  | 11 => RX11
  | 12 => RX12
  | 13 => RJ0
  | 14 => RJ1
  | 15 => RJ3
  | 16 => RJ2
  | 17 => RJ6
  | 18 => RJ9
  | 19 => RJ7
  | 20 => RJ13
  | _ => RL
abbrev MI : Type := ByteArray × Nat × Option FieldType × MethodName × Nat
def mt_0 : List MI := [(cX11_init, 2, none, yX11_init, 11), (cX0_init, 1, none, yX0_init, 0), (cX0_begin, 3, none, yX0_begin, 0), (cX0_givePoint, 5, none, yX0_givePoint, 0), (cX0_giveSign, 5, none, yX0_giveSign, 0), (cX0_giveInOrder, 5, none, yX0_giveInOrder, 0), (cX4_init, 2, none, yX4_init, 4), (cX7_init, 1, none, yX7_init, 7), (cX2_init, 2, none, yX2_init, 2), (cX6_init, 1, none, yX6_init, 6), (cX10_init, 2, none, yX10_init, 10), (cX9_init, 1, none, yX9_init, 9), (cX8_init, 1, none, yX8_init, 8), (cX3_init, 1, none, yX3_init, 3), (cX1_init, 1, none, yX1_init, 1), (cX11_write, 2, (some .int), yX11_write, 11)]
def mt_1 : List MI := [(cX7_isFull, 1, (some .boolean), yX7_isFull, 7), (cX7_append, 2, none, yX7_append, 7), (cX7_length, 1, (some .int), yX7_length, 7), (cX11_erase, 2, (some .int), yX11_erase, 11), (cX7_clear, 1, none, yX7_clear, 7), (cX11_fault, 1, (some .int), yX11_fault, 11), (cX0_copy, 2, none, yX0_copy, 0), (cX7_read, 3, (some .int), yX7_read, 7), (cX7_nextToken, 1, none, yX7_nextToken, 7), (cX7_isSmall, 1, (some .boolean), yX7_isSmall, 7), (cX7_isDigit, 1, (some .boolean), yX7_isDigit, 7), (cX7_readClause, 2, (some .boolean), yX7_readClause, 7), (cX7_isWord, 3, (some .boolean), yX7_isWord, 7), (cX7_readSigns, 7, (some .boolean), yX7_readSigns, 7), (cX7_readNumber, 6, (some .boolean), yX7_readNumber, 7), (cX0_triplesOf, 1, (some .int), yX0_triplesOf, 0)]
def mt_2 : List MI := [(cX7_isSignWord, 3, (some .boolean), yX7_isSignWord, 7), (cX7_signTold, 1, (some .int), yX7_signTold, 7), (cX7_readPoint, 5, (some .boolean), yX7_readPoint, 7), (cX0_size, 1, (some .int), yX0_size, 0), (cX7_readCoordinate, 2, (some .boolean), yX7_readCoordinate, 7), (cX7_readFlip, 2, (some .boolean), yX7_readFlip, 7), (cX0_reverse, 5, (some .int), yX0_reverse, 0), (cX0_numberOf, 3, (some .int), yX0_numberOf, 0), (cX0_signOf, 4, (some .int), yX0_signOf, 0), (cX7_readSwap, 5, (some .boolean), yX7_readSwap, 7), (cX0_trade, 6, (some .int), yX0_trade, 0), (cX0_tradePoints, 6, none, yX0_tradePoints, 0), (cX0_tradeSigns, 7, (some .int), yX0_tradeSigns, 0), (cX7_readDraw, 2, (some .boolean), yX7_readDraw, 7), (cX0_takeTurns, 6, (some .int), yX0_takeTurns, 0), (cX0_turnOf, 5, (some .int), yX0_turnOf, 0)]
def mt_3 : List MI := [(cX0_minor, 5, (some .int), yX0_minor, 0), (cX11_tell, 2, (some .int), yX11_tell, 11), (cX4_clear, 1, none, yX4_clear, 4), (cX2_forget, 1, none, yX2_forget, 2), (cX10_forget, 2, none, yX10_forget, 10), (cX7_clauses, 1, (some .int), yX7_clauses, 7), (cX11_sign, 4, (some .int), yX11_sign, 11), (cX0_has, 2, (some .boolean), yX0_has, 0), (cX11_turn, 4, (some .int), yX11_turn, 11), (cX11_point, 3, (some .int), yX11_point, 11), (cX11_set, 6, (some .int), yX11_set, 11), (cX11_beginDeed, 1, none, yX11_beginDeed, 11), (cX4_remember, 2, none, yX4_remember, 4), (cX11_place, 6, (some .int), yX11_place, 11), (cX11_isFar, 1, (some .boolean), yX11_isFar, 11), (cX0_isAt, 5, (some .boolean), yX0_isAt, 0)]
def mt_4 : List MI := [(cX11_flip, 2, (some .int), yX11_flip, 11), (cX11_swap, 3, (some .int), yX11_swap, 11), (cX11_add, 4, (some .int), yX11_add, 11), (cX0_append, 7, none, yX0_append, 0), (cX11_drop, 2, (some .int), yX11_drop, 11), (cX0_remove, 5, none, yX0_remove, 0), (cX11_draw, 1, (some .int), yX11_draw, 11), (cX11_undo, 1, (some .int), yX11_undo, 11), (cX4_size, 1, (some .int), yX4_size, 4), (cX4_takeLatest, 2, none, yX4_takeLatest, 4), (cX11_keep, 2, (some .int), yX11_keep, 11), (cX11_back, 2, (some .int), yX11_back, 11), (cX11_five, 7, (some .int), yX11_five, 11), (cX11_areDistinct, 5, (some .boolean), yX11_areDistinct, 11), (cJ6_bitCount_0f7a4, 1, (some .int), yJ6_bitCount_0f7a4, 17), (cX6_isGood, 11, (some .boolean), yX6_isGood, 6)]
def mt_5 : List MI := [(cX11_is, 2, (some .int), yX11_is, 11), (cX2_hasExchange, 1, (some .boolean), yX2_hasExchange, 2), (cX6_haveExchange, 4, (some .boolean), yX6_haveExchange, 6), (cX6_gather, 5, none, yX6_gather, 6), (cX6_canExchange, 4, (some .boolean), yX6_canExchange, 6), (cX6_isMended, 4, (some .boolean), yX6_isMended, 6), (cX2_isOrderly, 1, (some .boolean), yX2_isOrderly, 2), (cX6_areOrderly, 2, (some .boolean), yX6_areOrderly, 6), (cX6_badFives, 10, (some .int), yX6_badFives, 6), (cX0_isDrawn, 4, (some .boolean), yX0_isDrawn, 0), (cX0_bases, 5, (some .int), yX0_bases, 0), (cX0_triples, 1, (some .int), yX0_triples, 0), (cX11_vector, 5, (some .int), yX11_vector, 11), (cX11_isKind, 1, (some .boolean), yX11_isKind, 11), (cX2_canTellOf, 2, (some .boolean), yX2_canTellOf, 2), (cX2_ofKind, 2, (some (.object "SignTriples$VectorRow")), yX2_ofKind, 2)]
def mt_6 : List MI := [(cX10_cocircuits, 6, (some (.object "SignTriples$VectorRow")), yX10_cocircuits, 10), (cX9_clear, 1, none, yX9_clear, 9), (cJ7_fill_53178, 4, none, yJ7_fill_53178, 19), (cX5_zero, 1, (some .int), yX5_zero, 5), (cX10_cocircuit, 5, (some .int), yX10_cocircuit, 10), (cX5_withNumber, 2, (some .int), yX5_withNumber, 5), (cX10_insertBoth, 3, none, yX10_insertBoth, 10), (cX9_insert, 3, none, yX9_insert, 9), (cX5_opposite, 2, (some .int), yX5_opposite, 5), (cX9_sort, 4, none, yX9_sort, 9), (cX10_circuits, 8, (some (.object "SignTriples$VectorRow")), yX10_circuits, 10), (cX10_circuit, 8, (some .int), yX10_circuit, 10), (cX10_covectors, 6, (some (.object "SignTriples$VectorRow")), yX10_covectors, 10), (cX9_length, 1, (some .int), yX9_length, 9), (cX9_at, 2, (some .int), yX9_at, 9), (cX5_composed, 3, (some .int), yX5_composed, 5)]
def mt_7 : List MI := [(cX10_topes, 6, (some (.object "SignTriples$VectorRow")), yX10_topes, 10), (cX5_zeros, 1, (some .int), yX5_zeros, 5), (cX9_has, 2, (some .boolean), yX9_has, 9), (cX5_numberAt, 3, (some .int), yX5_numberAt, 5), (cX11_beside, 2, (some .int), yX11_beside, 11), (cX2_graph, 1, (some (.object "SignTriples$TopeGraph")), yX2_graph, 2), (cX8_build, 4, none, yX8_build, 8), (cX8_isSomeBetween, 7, (some .boolean), yX8_isSomeBetween, 8), (cX5_separation, 3, (some .int), yX5_separation, 5), (cX8_neighbours, 2, (some .int), yX8_neighbours, 8), (cX8_has, 2, (some .boolean), yX8_has, 8), (cJ13_bitCount_95d88, 2, (some .int), yJ13_bitCount_95d88, 20), (cX11_between, 6, (some .int), yX11_between, 11), (cX8_isNext, 3, (some .boolean), yX8_isNext, 8), (cX8_steps, 6, (some .int), yX8_steps, 8), (cX8_nextToAny, 6, (some .long), yX8_nextToAny, 8)]
def mt_8 : List MI := [(cX11_mutation, 3, (some .int), yX11_mutation, 11), (cX2_mutations, 1, (some .int), yX2_mutations, 2), (cX3_mutations, 7, (some .int), yX3_mutations, 3), (cX3_isMutation, 6, (some .boolean), yX3_isMutation, 3), (cX11_extensions, 1, (some .int), yX11_extensions, 11), (cX2_extensionWays, 1, (some .int), yX2_extensionWays, 2), (cX3_extensionWays, 3, (some .int), yX3_extensionWays, 3), (cX0_widen, 1, none, yX0_widen, 0), (cX3_ways, 7, (some .int), yX3_ways, 3), (cX11_box, 4, (some .int), yX11_box, 11), (cX11_isBox, 1, (some .boolean), yX11_isBox, 11), (cX1_make, 3, none, yX1_make, 1), (cX11_lay, 7, (some .int), yX11_lay, 11), (cX1_isMissing, 1, (some .boolean), yX1_isMissing, 1), (cX1_hasPlace, 2, (some .boolean), yX1_hasPlace, 1), (cX1_isMadeFor, 2, (some .boolean), yX1_isMadeFor, 1)]
def mt_9 : List MI := [(cX1_put, 4, none, yX1_put, 1), (cX11_compose, 6, (some .int), yX11_compose, 11), (cX1_isEmptyAt, 2, (some .boolean), yX1_isEmptyAt, 1), (cX1_elementsAt, 2, (some .int), yX1_elementsAt, 1), (cX1_keyAt, 2, (some .int), yX1_keyAt, 1), (cX11_seen, 6, (some .int), yX11_seen, 11), (cX11_refusalAt, 3, (some .int), yX11_refusalAt, 11), (cX11_find, 5, (some .int), yX11_find, 11), (cX9_indexOf, 3, (some .int), yX9_indexOf, 9), (cX11_away, 3, (some .int), yX11_away, 11), (cX1_vectors, 3, (some .int), yX1_vectors, 1), (cX1_vanish, 1, none, yX1_vanish, 1), (cX11_count, 2, (some .int), yX11_count, 11), (cX2_loops, 1, (some .int), yX2_loops, 2), (cX6_loops, 4, (some .int), yX6_loops, 6), (cX2_parallels, 1, (some .int), yX2_parallels, 2)]
def mt_10 : List MI := [(cX6_parallels, 7, (some .int), yX6_parallels, 6), (cX6_isInBase, 3, (some .boolean), yX6_isInBase, 6), (cX11_vectorsOnBoxes, 3, (some .int), yX11_vectorsOnBoxes, 11), (cX12_init, 1, none, yX12_init, 12), (cX12_pointsAnew, 2, none, yX12_pointsAnew, 12), (cX12_write, 2, (some .int), yX12_write, 12), (cX12_in, 6, (some .boolean), yX12_in, 12), (cX12_erase, 2, (some .int), yX12_erase, 12), (cX12_fault, 1, (some .int), yX12_fault, 12), (cX12_readsAll, 3, (some .boolean), yX12_readsAll, 12), (cX12_n, 1, (some .int), yX12_n, 12), (cX12_next, 1, none, yX12_next, 12), (cX12_isSmall, 1, (some .boolean), yX12_isSmall, 12), (cX12_isDigit, 1, (some .boolean), yX12_isDigit, 12), (cX12_readsClause, 2, (some .boolean), yX12_readsClause, 12), (cX12_isWord, 7, (some .boolean), yX12_isWord, 12)]
def mt_11 : List MI := [(cX12_readsSigns, 7, (some .boolean), yX12_readsSigns, 12), (cX12_reads, 6, (some .boolean), yX12_reads, 12), (cX12_triples, 1, (some .int), yX12_triples, 12), (cX12_anew, 2, none, yX12_anew, 12), (cX12_signs, 7, none, yX12_signs, 12), (cX12_low, 3, (some .int), yX12_low, 12), (cX12_high, 3, (some .int), yX12_high, 12), (cX12_placeOf, 5, (some .int), yX12_placeOf, 12), (cX12_turnsOf, 4, (some .int), yX12_turnsOf, 12), (cX12_readsPoint, 3, (some .boolean), yX12_readsPoint, 12), (cX12_isHere, 2, (some .boolean), yX12_isHere, 12), (cX12_flips, 6, (some .int), yX12_flips, 12), (cX12_signOf, 7, (some .int), yX12_signOf, 12), (cX12_coordinate, 3, (some .int), yX12_coordinate, 12), (cX12_points, 5, none, yX12_points, 12), (cX12_readsSwap, 2, (some .boolean), yX12_readsSwap, 12)]
def mt_12 : List MI := [(cX12_valueHere, 3, (some .int), yX12_valueHere, 12), (cX12_swaps, 8, (some .int), yX12_swaps, 12), (cX12_under, 3, (some .int), yX12_under, 12), (cX12_wasSign, 6, (some .int), yX12_wasSign, 12), (cX12_draws, 6, (some .int), yX12_draws, 12), (cX12_turnOf, 8, (some .int), yX12_turnOf, 12), (cX12_tell, 1, (some .int), yX12_tell, 12), (cX12_sign, 4, (some .int), yX12_sign, 12), (cX12_areThree, 4, (some .boolean), yX12_areThree, 12), (cX12_isElement, 2, (some .boolean), yX12_isElement, 12), (cX12_turn, 4, (some .int), yX12_turn, 12), (cX12_point, 3, (some .int), yX12_point, 12), (cX12_set, 6, (some .int), yX12_set, 12), (cX12_notes, 2, none, yX12_notes, 12), (cX12_copyRow, 4, none, yX12_copyRow, 12), (cX12_place, 6, (some .int), yX12_place, 12)]
def mt_13 : List MI := [(cX12_isCoordinate, 1, (some .boolean), yX12_isCoordinate, 12), (cX12_flip, 2, (some .int), yX12_flip, 12), (cX12_swap, 3, (some .int), yX12_swap, 12), (cX12_add, 7, (some .int), yX12_add, 12), (cX12_drop, 5, (some .int), yX12_drop, 12), (cX12_draw, 1, (some .int), yX12_draw, 12), (cX12_undo, 1, (some .int), yX12_undo, 12), (cX12_keep, 2, (some .int), yX12_keep, 12), (cX12_back, 2, (some .int), yX12_back, 12), (cX12_five, 8, (some .int), yX12_five, 12), (cX12_isGood, 11, (some .boolean), yX12_isGood, 12), (cX12_is, 2, (some .int), yX12_is, 12), (cX12_isExchange, 5, (some .boolean), yX12_isExchange, 12), (cX12_bases, 5, (some .int), yX12_bases, 12), (cX12_isBase, 4, (some .boolean), yX12_isBase, 12), (cX12_areExchangeable, 8, (some .boolean), yX12_areExchangeable, 12)]
def mt_14 : List MI := [(cX12_exchangeable, 10, (some .boolean), yX12_exchangeable, 12), (cX12_exchanges, 12, (some .boolean), yX12_exchanges, 12), (cX12_isOrderly, 1, (some .boolean), yX12_isOrderly, 12), (cX12_badFives, 4, (some .int), yX12_badFives, 12), (cX12_besides, 5, (some .int), yX12_besides, 12), (cX12_isDrawn, 5, (some .boolean), yX12_isDrawn, 12), (cX12_vector, 5, (some .int), yX12_vector, 12), (cX12_isBarred, 2, (some .boolean), yX12_isBarred, 12), (cX12_marksKind, 3, none, yX12_marksKind, 12), (cX12_power, 3, (some .int), yX12_power, 12), (cX12_marksCocircuits, 4, none, yX12_marksCocircuits, 12), (cX12_marksBoth, 2, none, yX12_marksBoth, 12), (cX12_codeOf, 3, (some .int), yX12_codeOf, 12), (cX12_zeros, 4, (some .int), yX12_zeros, 12), (cX12_digit, 3, (some .int), yX12_digit, 12), (cX12_marksCircuits, 6, none, yX12_marksCircuits, 12)]
def mt_15 : List MI := [(cX12_marksCovectors, 5, none, yX12_marksCovectors, 12), (cX12_areAcross, 7, (some .boolean), yX12_areAcross, 12), (cX12_marksTopes, 3, none, yX12_marksTopes, 12), (cX12_marked, 3, (some .int), yX12_marked, 12), (cX12_markedAt, 4, (some .int), yX12_markedAt, 12), (cX12_beside, 4, (some .int), yX12_beside, 12), (cX12_findsTopes, 2, none, yX12_findsTopes, 12), (cX12_isNext, 5, (some .boolean), yX12_isNext, 12), (cX12_apart, 5, (some .int), yX12_apart, 12), (cX12_between, 4, (some .int), yX12_between, 12), (cX12_ones, 3, (some .int), yX12_ones, 12), (cX12_steps, 6, (some .int), yX12_steps, 12), (cX12_mutation, 8, (some .int), yX12_mutation, 12), (cX12_isMutation, 6, (some .boolean), yX12_isMutation, 12), (cX12_extensions, 8, (some .int), yX12_extensions, 12), (cX12_box, 5, (some .int), yX12_box, 12)]
def mt_16 : List MI := [(cX12_isBox, 1, (some .boolean), yX12_isBox, 12), (cX12_lay, 8, (some .int), yX12_lay, 12), (cX12_finds, 3, (some .int), yX12_finds, 12), (cX12_compose, 10, (some .int), yX12_compose, 12), (cX12_seen, 7, (some .int), yX12_seen, 12), (cX12_find, 8, (some .int), yX12_find, 12), (cX12_away, 3, (some .int), yX12_away, 12), (cX12_laid, 4, (some .int), yX12_laid, 12), (cX12_count, 2, (some .int), yX12_count, 12), (cX12_loops, 6, (some .int), yX12_loops, 12), (cX12_parallels, 7, (some .int), yX12_parallels, 12)]
def mtC (q : Nat) : List MI := match q with
  | 0 => mt_0
  | 1 => mt_1
  | 2 => mt_2
  | 3 => mt_3
  | 4 => mt_4
  | 5 => mt_5
  | 6 => mt_6
  | 7 => mt_7
  | 8 => mt_8
  | 9 => mt_9
  | 10 => mt_10
  | 11 => mt_11
  | 12 => mt_12
  | 13 => mt_13
  | 14 => mt_14
  | 15 => mt_15
  | 16 => mt_16
  | _ => []
def mt (j : Nat) : Option MI := (mtC (j / 16))[j % 16]?
theorem mt0 : mt 0 = some (cX11_init, 2, none, yX11_init, 11) := rfl
theorem mt1 : mt 1 = some (cX0_init, 1, none, yX0_init, 0) := rfl
theorem mt2 : mt 2 = some (cX0_begin, 3, none, yX0_begin, 0) := rfl
theorem mt3 : mt 3 = some (cX0_givePoint, 5, none, yX0_givePoint, 0) := rfl
theorem mt4 : mt 4 = some (cX0_giveSign, 5, none, yX0_giveSign, 0) := rfl
theorem mt5 : mt 5 = some (cX0_giveInOrder, 5, none, yX0_giveInOrder, 0) := rfl
theorem mt6 : mt 6 = some (cX4_init, 2, none, yX4_init, 4) := rfl
theorem mt7 : mt 7 = some (cX7_init, 1, none, yX7_init, 7) := rfl
theorem mt8 : mt 8 = some (cX2_init, 2, none, yX2_init, 2) := rfl
theorem mt9 : mt 9 = some (cX6_init, 1, none, yX6_init, 6) := rfl
theorem mt10 : mt 10 = some (cX10_init, 2, none, yX10_init, 10) := rfl
theorem mt11 : mt 11 = some (cX9_init, 1, none, yX9_init, 9) := rfl
theorem mt12 : mt 12 = some (cX8_init, 1, none, yX8_init, 8) := rfl
theorem mt13 : mt 13 = some (cX3_init, 1, none, yX3_init, 3) := rfl
theorem mt14 : mt 14 = some (cX1_init, 1, none, yX1_init, 1) := rfl
theorem mt15 : mt 15 = some (cX11_write, 2, (some .int), yX11_write, 11) := rfl
theorem mt16 : mt 16 = some (cX7_isFull, 1, (some .boolean), yX7_isFull, 7) := rfl
theorem mt17 : mt 17 = some (cX7_append, 2, none, yX7_append, 7) := rfl
theorem mt18 : mt 18 = some (cX7_length, 1, (some .int), yX7_length, 7) := rfl
theorem mt19 : mt 19 = some (cX11_erase, 2, (some .int), yX11_erase, 11) := rfl
theorem mt20 : mt 20 = some (cX7_clear, 1, none, yX7_clear, 7) := rfl
theorem mt21 : mt 21 = some (cX11_fault, 1, (some .int), yX11_fault, 11) := rfl
theorem mt22 : mt 22 = some (cX0_copy, 2, none, yX0_copy, 0) := rfl
theorem mt23 : mt 23 = some (cX7_read, 3, (some .int), yX7_read, 7) := rfl
theorem mt24 : mt 24 = some (cX7_nextToken, 1, none, yX7_nextToken, 7) := rfl
theorem mt25 : mt 25 = some (cX7_isSmall, 1, (some .boolean), yX7_isSmall, 7) := rfl
theorem mt26 : mt 26 = some (cX7_isDigit, 1, (some .boolean), yX7_isDigit, 7) := rfl
theorem mt27 : mt 27 = some (cX7_readClause, 2, (some .boolean), yX7_readClause, 7) := rfl
theorem mt28 : mt 28 = some (cX7_isWord, 3, (some .boolean), yX7_isWord, 7) := rfl
theorem mt29 : mt 29 = some (cX7_readSigns, 7, (some .boolean), yX7_readSigns, 7) := rfl
theorem mt30 : mt 30 = some (cX7_readNumber, 6, (some .boolean), yX7_readNumber, 7) := rfl
theorem mt31 : mt 31 = some (cX0_triplesOf, 1, (some .int), yX0_triplesOf, 0) := rfl
theorem mt32 : mt 32 = some (cX7_isSignWord, 3, (some .boolean), yX7_isSignWord, 7) := rfl
theorem mt33 : mt 33 = some (cX7_signTold, 1, (some .int), yX7_signTold, 7) := rfl
theorem mt34 : mt 34 = some (cX7_readPoint, 5, (some .boolean), yX7_readPoint, 7) := rfl
theorem mt35 : mt 35 = some (cX0_size, 1, (some .int), yX0_size, 0) := rfl
theorem mt36 : mt 36 = some (cX7_readCoordinate, 2, (some .boolean), yX7_readCoordinate, 7) := rfl
theorem mt37 : mt 37 = some (cX7_readFlip, 2, (some .boolean), yX7_readFlip, 7) := rfl
theorem mt38 : mt 38 = some (cX0_reverse, 5, (some .int), yX0_reverse, 0) := rfl
theorem mt39 : mt 39 = some (cX0_numberOf, 3, (some .int), yX0_numberOf, 0) := rfl
theorem mt40 : mt 40 = some (cX0_signOf, 4, (some .int), yX0_signOf, 0) := rfl
theorem mt41 : mt 41 = some (cX7_readSwap, 5, (some .boolean), yX7_readSwap, 7) := rfl
theorem mt42 : mt 42 = some (cX0_trade, 6, (some .int), yX0_trade, 0) := rfl
theorem mt43 : mt 43 = some (cX0_tradePoints, 6, none, yX0_tradePoints, 0) := rfl
theorem mt44 : mt 44 = some (cX0_tradeSigns, 7, (some .int), yX0_tradeSigns, 0) := rfl
theorem mt45 : mt 45 = some (cX7_readDraw, 2, (some .boolean), yX7_readDraw, 7) := rfl
theorem mt46 : mt 46 = some (cX0_takeTurns, 6, (some .int), yX0_takeTurns, 0) := rfl
theorem mt47 : mt 47 = some (cX0_turnOf, 5, (some .int), yX0_turnOf, 0) := rfl
theorem mt48 : mt 48 = some (cX0_minor, 5, (some .int), yX0_minor, 0) := rfl
theorem mt49 : mt 49 = some (cX11_tell, 2, (some .int), yX11_tell, 11) := rfl
theorem mt50 : mt 50 = some (cX4_clear, 1, none, yX4_clear, 4) := rfl
theorem mt51 : mt 51 = some (cX2_forget, 1, none, yX2_forget, 2) := rfl
theorem mt52 : mt 52 = some (cX10_forget, 2, none, yX10_forget, 10) := rfl
theorem mt53 : mt 53 = some (cX7_clauses, 1, (some .int), yX7_clauses, 7) := rfl
theorem mt54 : mt 54 = some (cX11_sign, 4, (some .int), yX11_sign, 11) := rfl
theorem mt55 : mt 55 = some (cX0_has, 2, (some .boolean), yX0_has, 0) := rfl
theorem mt56 : mt 56 = some (cX11_turn, 4, (some .int), yX11_turn, 11) := rfl
theorem mt57 : mt 57 = some (cX11_point, 3, (some .int), yX11_point, 11) := rfl
theorem mt58 : mt 58 = some (cX11_set, 6, (some .int), yX11_set, 11) := rfl
theorem mt59 : mt 59 = some (cX11_beginDeed, 1, none, yX11_beginDeed, 11) := rfl
theorem mt60 : mt 60 = some (cX4_remember, 2, none, yX4_remember, 4) := rfl
theorem mt61 : mt 61 = some (cX11_place, 6, (some .int), yX11_place, 11) := rfl
theorem mt62 : mt 62 = some (cX11_isFar, 1, (some .boolean), yX11_isFar, 11) := rfl
theorem mt63 : mt 63 = some (cX0_isAt, 5, (some .boolean), yX0_isAt, 0) := rfl
theorem mt64 : mt 64 = some (cX11_flip, 2, (some .int), yX11_flip, 11) := rfl
theorem mt65 : mt 65 = some (cX11_swap, 3, (some .int), yX11_swap, 11) := rfl
theorem mt66 : mt 66 = some (cX11_add, 4, (some .int), yX11_add, 11) := rfl
theorem mt67 : mt 67 = some (cX0_append, 7, none, yX0_append, 0) := rfl
theorem mt68 : mt 68 = some (cX11_drop, 2, (some .int), yX11_drop, 11) := rfl
theorem mt69 : mt 69 = some (cX0_remove, 5, none, yX0_remove, 0) := rfl
theorem mt70 : mt 70 = some (cX11_draw, 1, (some .int), yX11_draw, 11) := rfl
theorem mt71 : mt 71 = some (cX11_undo, 1, (some .int), yX11_undo, 11) := rfl
theorem mt72 : mt 72 = some (cX4_size, 1, (some .int), yX4_size, 4) := rfl
theorem mt73 : mt 73 = some (cX4_takeLatest, 2, none, yX4_takeLatest, 4) := rfl
theorem mt74 : mt 74 = some (cX11_keep, 2, (some .int), yX11_keep, 11) := rfl
theorem mt75 : mt 75 = some (cX11_back, 2, (some .int), yX11_back, 11) := rfl
theorem mt76 : mt 76 = some (cX11_five, 7, (some .int), yX11_five, 11) := rfl
theorem mt77 : mt 77 = some (cX11_areDistinct, 5, (some .boolean), yX11_areDistinct, 11) := rfl
theorem mt78 : mt 78 = some (cJ6_bitCount_0f7a4, 1, (some .int), yJ6_bitCount_0f7a4, 17) := rfl
theorem mt79 : mt 79 = some (cX6_isGood, 11, (some .boolean), yX6_isGood, 6) := rfl
theorem mt80 : mt 80 = some (cX11_is, 2, (some .int), yX11_is, 11) := rfl
theorem mt81 : mt 81 = some (cX2_hasExchange, 1, (some .boolean), yX2_hasExchange, 2) := rfl
theorem mt82 : mt 82 = some (cX6_haveExchange, 4, (some .boolean), yX6_haveExchange, 6) := rfl
theorem mt83 : mt 83 = some (cX6_gather, 5, none, yX6_gather, 6) := rfl
theorem mt84 : mt 84 = some (cX6_canExchange, 4, (some .boolean), yX6_canExchange, 6) := rfl
theorem mt85 : mt 85 = some (cX6_isMended, 4, (some .boolean), yX6_isMended, 6) := rfl
theorem mt86 : mt 86 = some (cX2_isOrderly, 1, (some .boolean), yX2_isOrderly, 2) := rfl
theorem mt87 : mt 87 = some (cX6_areOrderly, 2, (some .boolean), yX6_areOrderly, 6) := rfl
theorem mt88 : mt 88 = some (cX6_badFives, 10, (some .int), yX6_badFives, 6) := rfl
theorem mt89 : mt 89 = some (cX0_isDrawn, 4, (some .boolean), yX0_isDrawn, 0) := rfl
theorem mt90 : mt 90 = some (cX0_bases, 5, (some .int), yX0_bases, 0) := rfl
theorem mt91 : mt 91 = some (cX0_triples, 1, (some .int), yX0_triples, 0) := rfl
theorem mt92 : mt 92 = some (cX11_vector, 5, (some .int), yX11_vector, 11) := rfl
theorem mt93 : mt 93 = some (cX11_isKind, 1, (some .boolean), yX11_isKind, 11) := rfl
theorem mt94 : mt 94 = some (cX2_canTellOf, 2, (some .boolean), yX2_canTellOf, 2) := rfl
theorem mt95 : mt 95 = some (cX2_ofKind, 2, (some (.object "SignTriples$VectorRow")), yX2_ofKind, 2) := rfl
theorem mt96 : mt 96 = some (cX10_cocircuits, 6, (some (.object "SignTriples$VectorRow")), yX10_cocircuits, 10) := rfl
theorem mt97 : mt 97 = some (cX9_clear, 1, none, yX9_clear, 9) := rfl
theorem mt98 : mt 98 = some (cJ7_fill_53178, 4, none, yJ7_fill_53178, 19) := rfl
theorem mt99 : mt 99 = some (cX5_zero, 1, (some .int), yX5_zero, 5) := rfl
theorem mt100 : mt 100 = some (cX10_cocircuit, 5, (some .int), yX10_cocircuit, 10) := rfl
theorem mt101 : mt 101 = some (cX5_withNumber, 2, (some .int), yX5_withNumber, 5) := rfl
theorem mt102 : mt 102 = some (cX10_insertBoth, 3, none, yX10_insertBoth, 10) := rfl
theorem mt103 : mt 103 = some (cX9_insert, 3, none, yX9_insert, 9) := rfl
theorem mt104 : mt 104 = some (cX5_opposite, 2, (some .int), yX5_opposite, 5) := rfl
theorem mt105 : mt 105 = some (cX9_sort, 4, none, yX9_sort, 9) := rfl
theorem mt106 : mt 106 = some (cX10_circuits, 8, (some (.object "SignTriples$VectorRow")), yX10_circuits, 10) := rfl
theorem mt107 : mt 107 = some (cX10_circuit, 8, (some .int), yX10_circuit, 10) := rfl
theorem mt108 : mt 108 = some (cX10_covectors, 6, (some (.object "SignTriples$VectorRow")), yX10_covectors, 10) := rfl
theorem mt109 : mt 109 = some (cX9_length, 1, (some .int), yX9_length, 9) := rfl
theorem mt110 : mt 110 = some (cX9_at, 2, (some .int), yX9_at, 9) := rfl
theorem mt111 : mt 111 = some (cX5_composed, 3, (some .int), yX5_composed, 5) := rfl
theorem mt112 : mt 112 = some (cX10_topes, 6, (some (.object "SignTriples$VectorRow")), yX10_topes, 10) := rfl
theorem mt113 : mt 113 = some (cX5_zeros, 1, (some .int), yX5_zeros, 5) := rfl
theorem mt114 : mt 114 = some (cX9_has, 2, (some .boolean), yX9_has, 9) := rfl
theorem mt115 : mt 115 = some (cX5_numberAt, 3, (some .int), yX5_numberAt, 5) := rfl
theorem mt116 : mt 116 = some (cX11_beside, 2, (some .int), yX11_beside, 11) := rfl
theorem mt117 : mt 117 = some (cX2_graph, 1, (some (.object "SignTriples$TopeGraph")), yX2_graph, 2) := rfl
theorem mt118 : mt 118 = some (cX8_build, 4, none, yX8_build, 8) := rfl
theorem mt119 : mt 119 = some (cX8_isSomeBetween, 7, (some .boolean), yX8_isSomeBetween, 8) := rfl
theorem mt120 : mt 120 = some (cX5_separation, 3, (some .int), yX5_separation, 5) := rfl
theorem mt121 : mt 121 = some (cX8_neighbours, 2, (some .int), yX8_neighbours, 8) := rfl
theorem mt122 : mt 122 = some (cX8_has, 2, (some .boolean), yX8_has, 8) := rfl
theorem mt123 : mt 123 = some (cJ13_bitCount_95d88, 2, (some .int), yJ13_bitCount_95d88, 20) := rfl
theorem mt124 : mt 124 = some (cX11_between, 6, (some .int), yX11_between, 11) := rfl
theorem mt125 : mt 125 = some (cX8_isNext, 3, (some .boolean), yX8_isNext, 8) := rfl
theorem mt126 : mt 126 = some (cX8_steps, 6, (some .int), yX8_steps, 8) := rfl
theorem mt127 : mt 127 = some (cX8_nextToAny, 6, (some .long), yX8_nextToAny, 8) := rfl
theorem mt128 : mt 128 = some (cX11_mutation, 3, (some .int), yX11_mutation, 11) := rfl
theorem mt129 : mt 129 = some (cX2_mutations, 1, (some .int), yX2_mutations, 2) := rfl
theorem mt130 : mt 130 = some (cX3_mutations, 7, (some .int), yX3_mutations, 3) := rfl
theorem mt131 : mt 131 = some (cX3_isMutation, 6, (some .boolean), yX3_isMutation, 3) := rfl
theorem mt132 : mt 132 = some (cX11_extensions, 1, (some .int), yX11_extensions, 11) := rfl
theorem mt133 : mt 133 = some (cX2_extensionWays, 1, (some .int), yX2_extensionWays, 2) := rfl
theorem mt134 : mt 134 = some (cX3_extensionWays, 3, (some .int), yX3_extensionWays, 3) := rfl
theorem mt135 : mt 135 = some (cX0_widen, 1, none, yX0_widen, 0) := rfl
theorem mt136 : mt 136 = some (cX3_ways, 7, (some .int), yX3_ways, 3) := rfl
theorem mt137 : mt 137 = some (cX11_box, 4, (some .int), yX11_box, 11) := rfl
theorem mt138 : mt 138 = some (cX11_isBox, 1, (some .boolean), yX11_isBox, 11) := rfl
theorem mt139 : mt 139 = some (cX1_make, 3, none, yX1_make, 1) := rfl
theorem mt140 : mt 140 = some (cX11_lay, 7, (some .int), yX11_lay, 11) := rfl
theorem mt141 : mt 141 = some (cX1_isMissing, 1, (some .boolean), yX1_isMissing, 1) := rfl
theorem mt142 : mt 142 = some (cX1_hasPlace, 2, (some .boolean), yX1_hasPlace, 1) := rfl
theorem mt143 : mt 143 = some (cX1_isMadeFor, 2, (some .boolean), yX1_isMadeFor, 1) := rfl
theorem mt144 : mt 144 = some (cX1_put, 4, none, yX1_put, 1) := rfl
theorem mt145 : mt 145 = some (cX11_compose, 6, (some .int), yX11_compose, 11) := rfl
theorem mt146 : mt 146 = some (cX1_isEmptyAt, 2, (some .boolean), yX1_isEmptyAt, 1) := rfl
theorem mt147 : mt 147 = some (cX1_elementsAt, 2, (some .int), yX1_elementsAt, 1) := rfl
theorem mt148 : mt 148 = some (cX1_keyAt, 2, (some .int), yX1_keyAt, 1) := rfl
theorem mt149 : mt 149 = some (cX11_seen, 6, (some .int), yX11_seen, 11) := rfl
theorem mt150 : mt 150 = some (cX11_refusalAt, 3, (some .int), yX11_refusalAt, 11) := rfl
theorem mt151 : mt 151 = some (cX11_find, 5, (some .int), yX11_find, 11) := rfl
theorem mt152 : mt 152 = some (cX9_indexOf, 3, (some .int), yX9_indexOf, 9) := rfl
theorem mt153 : mt 153 = some (cX11_away, 3, (some .int), yX11_away, 11) := rfl
theorem mt154 : mt 154 = some (cX1_vectors, 3, (some .int), yX1_vectors, 1) := rfl
theorem mt155 : mt 155 = some (cX1_vanish, 1, none, yX1_vanish, 1) := rfl
theorem mt156 : mt 156 = some (cX11_count, 2, (some .int), yX11_count, 11) := rfl
theorem mt157 : mt 157 = some (cX2_loops, 1, (some .int), yX2_loops, 2) := rfl
theorem mt158 : mt 158 = some (cX6_loops, 4, (some .int), yX6_loops, 6) := rfl
theorem mt159 : mt 159 = some (cX2_parallels, 1, (some .int), yX2_parallels, 2) := rfl
theorem mt160 : mt 160 = some (cX6_parallels, 7, (some .int), yX6_parallels, 6) := rfl
theorem mt161 : mt 161 = some (cX6_isInBase, 3, (some .boolean), yX6_isInBase, 6) := rfl
theorem mt162 : mt 162 = some (cX11_vectorsOnBoxes, 3, (some .int), yX11_vectorsOnBoxes, 11) := rfl
theorem mt163 : mt 163 = some (cX12_init, 1, none, yX12_init, 12) := rfl
theorem mt164 : mt 164 = some (cX12_pointsAnew, 2, none, yX12_pointsAnew, 12) := rfl
theorem mt165 : mt 165 = some (cX12_write, 2, (some .int), yX12_write, 12) := rfl
theorem mt166 : mt 166 = some (cX12_in, 6, (some .boolean), yX12_in, 12) := rfl
theorem mt167 : mt 167 = some (cX12_erase, 2, (some .int), yX12_erase, 12) := rfl
theorem mt168 : mt 168 = some (cX12_fault, 1, (some .int), yX12_fault, 12) := rfl
theorem mt169 : mt 169 = some (cX12_readsAll, 3, (some .boolean), yX12_readsAll, 12) := rfl
theorem mt170 : mt 170 = some (cX12_n, 1, (some .int), yX12_n, 12) := rfl
theorem mt171 : mt 171 = some (cX12_next, 1, none, yX12_next, 12) := rfl
theorem mt172 : mt 172 = some (cX12_isSmall, 1, (some .boolean), yX12_isSmall, 12) := rfl
theorem mt173 : mt 173 = some (cX12_isDigit, 1, (some .boolean), yX12_isDigit, 12) := rfl
theorem mt174 : mt 174 = some (cX12_readsClause, 2, (some .boolean), yX12_readsClause, 12) := rfl
theorem mt175 : mt 175 = some (cX12_isWord, 7, (some .boolean), yX12_isWord, 12) := rfl
theorem mt176 : mt 176 = some (cX12_readsSigns, 7, (some .boolean), yX12_readsSigns, 12) := rfl
theorem mt177 : mt 177 = some (cX12_reads, 6, (some .boolean), yX12_reads, 12) := rfl
theorem mt178 : mt 178 = some (cX12_triples, 1, (some .int), yX12_triples, 12) := rfl
theorem mt179 : mt 179 = some (cX12_anew, 2, none, yX12_anew, 12) := rfl
theorem mt180 : mt 180 = some (cX12_signs, 7, none, yX12_signs, 12) := rfl
theorem mt181 : mt 181 = some (cX12_low, 3, (some .int), yX12_low, 12) := rfl
theorem mt182 : mt 182 = some (cX12_high, 3, (some .int), yX12_high, 12) := rfl
theorem mt183 : mt 183 = some (cX12_placeOf, 5, (some .int), yX12_placeOf, 12) := rfl
theorem mt184 : mt 184 = some (cX12_turnsOf, 4, (some .int), yX12_turnsOf, 12) := rfl
theorem mt185 : mt 185 = some (cX12_readsPoint, 3, (some .boolean), yX12_readsPoint, 12) := rfl
theorem mt186 : mt 186 = some (cX12_isHere, 2, (some .boolean), yX12_isHere, 12) := rfl
theorem mt187 : mt 187 = some (cX12_flips, 6, (some .int), yX12_flips, 12) := rfl
theorem mt188 : mt 188 = some (cX12_signOf, 7, (some .int), yX12_signOf, 12) := rfl
theorem mt189 : mt 189 = some (cX12_coordinate, 3, (some .int), yX12_coordinate, 12) := rfl
theorem mt190 : mt 190 = some (cX12_points, 5, none, yX12_points, 12) := rfl
theorem mt191 : mt 191 = some (cX12_readsSwap, 2, (some .boolean), yX12_readsSwap, 12) := rfl
theorem mt192 : mt 192 = some (cX12_valueHere, 3, (some .int), yX12_valueHere, 12) := rfl
theorem mt193 : mt 193 = some (cX12_swaps, 8, (some .int), yX12_swaps, 12) := rfl
theorem mt194 : mt 194 = some (cX12_under, 3, (some .int), yX12_under, 12) := rfl
theorem mt195 : mt 195 = some (cX12_wasSign, 6, (some .int), yX12_wasSign, 12) := rfl
theorem mt196 : mt 196 = some (cX12_draws, 6, (some .int), yX12_draws, 12) := rfl
theorem mt197 : mt 197 = some (cX12_turnOf, 8, (some .int), yX12_turnOf, 12) := rfl
theorem mt198 : mt 198 = some (cX12_tell, 1, (some .int), yX12_tell, 12) := rfl
theorem mt199 : mt 199 = some (cX12_sign, 4, (some .int), yX12_sign, 12) := rfl
theorem mt200 : mt 200 = some (cX12_areThree, 4, (some .boolean), yX12_areThree, 12) := rfl
theorem mt201 : mt 201 = some (cX12_isElement, 2, (some .boolean), yX12_isElement, 12) := rfl
theorem mt202 : mt 202 = some (cX12_turn, 4, (some .int), yX12_turn, 12) := rfl
theorem mt203 : mt 203 = some (cX12_point, 3, (some .int), yX12_point, 12) := rfl
theorem mt204 : mt 204 = some (cX12_set, 6, (some .int), yX12_set, 12) := rfl
theorem mt205 : mt 205 = some (cX12_notes, 2, none, yX12_notes, 12) := rfl
theorem mt206 : mt 206 = some (cX12_copyRow, 4, none, yX12_copyRow, 12) := rfl
theorem mt207 : mt 207 = some (cX12_place, 6, (some .int), yX12_place, 12) := rfl
theorem mt208 : mt 208 = some (cX12_isCoordinate, 1, (some .boolean), yX12_isCoordinate, 12) := rfl
theorem mt209 : mt 209 = some (cX12_flip, 2, (some .int), yX12_flip, 12) := rfl
theorem mt210 : mt 210 = some (cX12_swap, 3, (some .int), yX12_swap, 12) := rfl
theorem mt211 : mt 211 = some (cX12_add, 7, (some .int), yX12_add, 12) := rfl
theorem mt212 : mt 212 = some (cX12_drop, 5, (some .int), yX12_drop, 12) := rfl
theorem mt213 : mt 213 = some (cX12_draw, 1, (some .int), yX12_draw, 12) := rfl
theorem mt214 : mt 214 = some (cX12_undo, 1, (some .int), yX12_undo, 12) := rfl
theorem mt215 : mt 215 = some (cX12_keep, 2, (some .int), yX12_keep, 12) := rfl
theorem mt216 : mt 216 = some (cX12_back, 2, (some .int), yX12_back, 12) := rfl
theorem mt217 : mt 217 = some (cX12_five, 8, (some .int), yX12_five, 12) := rfl
theorem mt218 : mt 218 = some (cX12_isGood, 11, (some .boolean), yX12_isGood, 12) := rfl
theorem mt219 : mt 219 = some (cX12_is, 2, (some .int), yX12_is, 12) := rfl
theorem mt220 : mt 220 = some (cX12_isExchange, 5, (some .boolean), yX12_isExchange, 12) := rfl
theorem mt221 : mt 221 = some (cX12_bases, 5, (some .int), yX12_bases, 12) := rfl
theorem mt222 : mt 222 = some (cX12_isBase, 4, (some .boolean), yX12_isBase, 12) := rfl
theorem mt223 : mt 223 = some (cX12_areExchangeable, 8, (some .boolean), yX12_areExchangeable, 12) := rfl
theorem mt224 : mt 224 = some (cX12_exchangeable, 10, (some .boolean), yX12_exchangeable, 12) := rfl
theorem mt225 : mt 225 = some (cX12_exchanges, 12, (some .boolean), yX12_exchanges, 12) := rfl
theorem mt226 : mt 226 = some (cX12_isOrderly, 1, (some .boolean), yX12_isOrderly, 12) := rfl
theorem mt227 : mt 227 = some (cX12_badFives, 4, (some .int), yX12_badFives, 12) := rfl
theorem mt228 : mt 228 = some (cX12_besides, 5, (some .int), yX12_besides, 12) := rfl
theorem mt229 : mt 229 = some (cX12_isDrawn, 5, (some .boolean), yX12_isDrawn, 12) := rfl
theorem mt230 : mt 230 = some (cX12_vector, 5, (some .int), yX12_vector, 12) := rfl
theorem mt231 : mt 231 = some (cX12_isBarred, 2, (some .boolean), yX12_isBarred, 12) := rfl
theorem mt232 : mt 232 = some (cX12_marksKind, 3, none, yX12_marksKind, 12) := rfl
theorem mt233 : mt 233 = some (cX12_power, 3, (some .int), yX12_power, 12) := rfl
theorem mt234 : mt 234 = some (cX12_marksCocircuits, 4, none, yX12_marksCocircuits, 12) := rfl
theorem mt235 : mt 235 = some (cX12_marksBoth, 2, none, yX12_marksBoth, 12) := rfl
theorem mt236 : mt 236 = some (cX12_codeOf, 3, (some .int), yX12_codeOf, 12) := rfl
theorem mt237 : mt 237 = some (cX12_zeros, 4, (some .int), yX12_zeros, 12) := rfl
theorem mt238 : mt 238 = some (cX12_digit, 3, (some .int), yX12_digit, 12) := rfl
theorem mt239 : mt 239 = some (cX12_marksCircuits, 6, none, yX12_marksCircuits, 12) := rfl
theorem mt240 : mt 240 = some (cX12_marksCovectors, 5, none, yX12_marksCovectors, 12) := rfl
theorem mt241 : mt 241 = some (cX12_areAcross, 7, (some .boolean), yX12_areAcross, 12) := rfl
theorem mt242 : mt 242 = some (cX12_marksTopes, 3, none, yX12_marksTopes, 12) := rfl
theorem mt243 : mt 243 = some (cX12_marked, 3, (some .int), yX12_marked, 12) := rfl
theorem mt244 : mt 244 = some (cX12_markedAt, 4, (some .int), yX12_markedAt, 12) := rfl
theorem mt245 : mt 245 = some (cX12_beside, 4, (some .int), yX12_beside, 12) := rfl
theorem mt246 : mt 246 = some (cX12_findsTopes, 2, none, yX12_findsTopes, 12) := rfl
theorem mt247 : mt 247 = some (cX12_isNext, 5, (some .boolean), yX12_isNext, 12) := rfl
theorem mt248 : mt 248 = some (cX12_apart, 5, (some .int), yX12_apart, 12) := rfl
theorem mt249 : mt 249 = some (cX12_between, 4, (some .int), yX12_between, 12) := rfl
theorem mt250 : mt 250 = some (cX12_ones, 3, (some .int), yX12_ones, 12) := rfl
theorem mt251 : mt 251 = some (cX12_steps, 6, (some .int), yX12_steps, 12) := rfl
theorem mt252 : mt 252 = some (cX12_mutation, 8, (some .int), yX12_mutation, 12) := rfl
theorem mt253 : mt 253 = some (cX12_isMutation, 6, (some .boolean), yX12_isMutation, 12) := rfl
theorem mt254 : mt 254 = some (cX12_extensions, 8, (some .int), yX12_extensions, 12) := rfl
theorem mt255 : mt 255 = some (cX12_box, 5, (some .int), yX12_box, 12) := rfl
theorem mt256 : mt 256 = some (cX12_isBox, 1, (some .boolean), yX12_isBox, 12) := rfl
theorem mt257 : mt 257 = some (cX12_lay, 8, (some .int), yX12_lay, 12) := rfl
theorem mt258 : mt 258 = some (cX12_finds, 3, (some .int), yX12_finds, 12) := rfl
theorem mt259 : mt 259 = some (cX12_compose, 10, (some .int), yX12_compose, 12) := rfl
theorem mt260 : mt 260 = some (cX12_seen, 7, (some .int), yX12_seen, 12) := rfl
theorem mt261 : mt 261 = some (cX12_find, 8, (some .int), yX12_find, 12) := rfl
theorem mt262 : mt 262 = some (cX12_away, 3, (some .int), yX12_away, 12) := rfl
theorem mt263 : mt 263 = some (cX12_laid, 4, (some .int), yX12_laid, 12) := rfl
theorem mt264 : mt 264 = some (cX12_count, 2, (some .int), yX12_count, 12) := rfl
theorem mt265 : mt 265 = some (cX12_loops, 6, (some .int), yX12_loops, 12) := rfl
theorem mt266 : mt 266 = some (cX12_parallels, 7, (some .int), yX12_parallels, 12) := rfl
def MOK (M : MI) : Prop := plainName M.2.2.2.1.cls = true ∧ M.2.2.2.1.cls = cn M.2.2.2.2 ∧ Jvm.Cond.code M.2.2.2.1 M.1 M.2.1 M.2.2.1 ∈ ATB ∧ Jvm.Cond.initialized (cn M.2.2.2.2) ∈ ATB ∧ (M.2.2.2.1.cls ≠ "java/lang/invoke/MethodHandle" ∧ M.2.2.2.1.cls ≠ "java/lang/invoke/VarHandle") ∧ M.2.1 ≤ 40
theorem ini_11 : Jvm.Cond.initialized (cn 11) ∈ ATB := atb_mem 83 (by decide +kernel) (by decide +kernel)
theorem ini_0 : Jvm.Cond.initialized (cn 0) ∈ ATB := atb_mem 84 (by decide +kernel) (by decide +kernel)
theorem ini_1 : Jvm.Cond.initialized (cn 1) ∈ ATB := atb_mem 93 (by decide +kernel) (by decide +kernel)
theorem ini_2 : Jvm.Cond.initialized (cn 2) ∈ ATB := atb_mem 87 (by decide +kernel) (by decide +kernel)
theorem ini_3 : Jvm.Cond.initialized (cn 3) ∈ ATB := atb_mem 92 (by decide +kernel) (by decide +kernel)
theorem ini_4 : Jvm.Cond.initialized (cn 4) ∈ ATB := atb_mem 85 (by decide +kernel) (by decide +kernel)
theorem ini_5 : Jvm.Cond.initialized (cn 5) ∈ ATB := atb_mem 103 (by decide +kernel) (by decide +kernel)
theorem ini_6 : Jvm.Cond.initialized (cn 6) ∈ ATB := atb_mem 88 (by decide +kernel) (by decide +kernel)
theorem ini_7 : Jvm.Cond.initialized (cn 7) ∈ ATB := atb_mem 86 (by decide +kernel) (by decide +kernel)
theorem ini_8 : Jvm.Cond.initialized (cn 8) ∈ ATB := atb_mem 91 (by decide +kernel) (by decide +kernel)
theorem ini_9 : Jvm.Cond.initialized (cn 9) ∈ ATB := atb_mem 90 (by decide +kernel) (by decide +kernel)
theorem ini_10 : Jvm.Cond.initialized (cn 10) ∈ ATB := atb_mem 89 (by decide +kernel) (by decide +kernel)
theorem ini_12 : Jvm.Cond.initialized (cn 12) ∈ ATB := atb_mem 94 (by decide +kernel) (by decide +kernel)
theorem ini_17 : Jvm.Cond.initialized (cn 17) ∈ ATB := atb_mem 100 (by decide +kernel) (by decide +kernel)
theorem ini_20 : Jvm.Cond.initialized (cn 20) ∈ ATB := atb_mem 104 (by decide +kernel) (by decide +kernel)
theorem ini_19 : Jvm.Cond.initialized (cn 19) ∈ ATB := atb_mem 102 (by decide +kernel) (by decide +kernel)
theorem mo0 : MOK (cX11_init, 2, none, yX11_init, 11) := ⟨by decide +kernel, by decide +kernel, atb_mem 109 (by decide +kernel) (by decide +kernel), ini_11, ⟨by decide +kernel, by decide +kernel⟩, by decide⟩
theorem mo1 : MOK (cX0_init, 1, none, yX0_init, 0) := ⟨by decide +kernel, by decide +kernel, atb_mem 117 (by decide +kernel) (by decide +kernel), ini_0, ⟨by decide +kernel, by decide +kernel⟩, by decide⟩
theorem mo2 : MOK (cX0_begin, 3, none, yX0_begin, 0) := ⟨by decide +kernel, by decide +kernel, atb_mem 122 (by decide +kernel) (by decide +kernel), ini_0, ⟨by decide +kernel, by decide +kernel⟩, by decide⟩
theorem mo3 : MOK (cX0_givePoint, 5, none, yX0_givePoint, 0) := ⟨by decide +kernel, by decide +kernel, atb_mem 126 (by decide +kernel) (by decide +kernel), ini_0, ⟨by decide +kernel, by decide +kernel⟩, by decide⟩
theorem mo4 : MOK (cX0_giveSign, 5, none, yX0_giveSign, 0) := ⟨by decide +kernel, by decide +kernel, atb_mem 130 (by decide +kernel) (by decide +kernel), ini_0, ⟨by decide +kernel, by decide +kernel⟩, by decide⟩
theorem mo5 : MOK (cX0_giveInOrder, 5, none, yX0_giveInOrder, 0) := ⟨by decide +kernel, by decide +kernel, atb_mem 134 (by decide +kernel) (by decide +kernel), ini_0, ⟨by decide +kernel, by decide +kernel⟩, by decide⟩
theorem mo6 : MOK (cX4_init, 2, none, yX4_init, 4) := ⟨by decide +kernel, by decide +kernel, atb_mem 150 (by decide +kernel) (by decide +kernel), ini_4, ⟨by decide +kernel, by decide +kernel⟩, by decide⟩
theorem mo7 : MOK (cX7_init, 1, none, yX7_init, 7) := ⟨by decide +kernel, by decide +kernel, atb_mem 169 (by decide +kernel) (by decide +kernel), ini_7, ⟨by decide +kernel, by decide +kernel⟩, by decide⟩
theorem mo8 : MOK (cX2_init, 2, none, yX2_init, 2) := ⟨by decide +kernel, by decide +kernel, atb_mem 195 (by decide +kernel) (by decide +kernel), ini_2, ⟨by decide +kernel, by decide +kernel⟩, by decide⟩
theorem mo9 : MOK (cX6_init, 1, none, yX6_init, 6) := ⟨by decide +kernel, by decide +kernel, atb_mem 201 (by decide +kernel) (by decide +kernel), ini_6, ⟨by decide +kernel, by decide +kernel⟩, by decide⟩
theorem mo10 : MOK (cX10_init, 2, none, yX10_init, 10) := ⟨by decide +kernel, by decide +kernel, atb_mem 217 (by decide +kernel) (by decide +kernel), ini_10, ⟨by decide +kernel, by decide +kernel⟩, by decide⟩
theorem mo11 : MOK (cX9_init, 1, none, yX9_init, 9) := ⟨by decide +kernel, by decide +kernel, atb_mem 224 (by decide +kernel) (by decide +kernel), ini_9, ⟨by decide +kernel, by decide +kernel⟩, by decide⟩
theorem mo12 : MOK (cX8_init, 1, none, yX8_init, 8) := ⟨by decide +kernel, by decide +kernel, atb_mem 247 (by decide +kernel) (by decide +kernel), ini_8, ⟨by decide +kernel, by decide +kernel⟩, by decide⟩
theorem mo13 : MOK (cX3_init, 1, none, yX3_init, 3) := ⟨by decide +kernel, by decide +kernel, atb_mem 261 (by decide +kernel) (by decide +kernel), ini_3, ⟨by decide +kernel, by decide +kernel⟩, by decide⟩
theorem mo14 : MOK (cX1_init, 1, none, yX1_init, 1) := ⟨by decide +kernel, by decide +kernel, atb_mem 305 (by decide +kernel) (by decide +kernel), ini_1, ⟨by decide +kernel, by decide +kernel⟩, by decide⟩
theorem mo15 : MOK (cX11_write, 2, (some .int), yX11_write, 11) := ⟨by decide +kernel, by decide +kernel, atb_mem 351 (by decide +kernel) (by decide +kernel), ini_11, ⟨by decide +kernel, by decide +kernel⟩, by decide⟩
theorem mo16 : MOK (cX7_isFull, 1, (some .boolean), yX7_isFull, 7) := ⟨by decide +kernel, by decide +kernel, atb_mem 355 (by decide +kernel) (by decide +kernel), ini_7, ⟨by decide +kernel, by decide +kernel⟩, by decide⟩
theorem mo17 : MOK (cX7_append, 2, none, yX7_append, 7) := ⟨by decide +kernel, by decide +kernel, atb_mem 359 (by decide +kernel) (by decide +kernel), ini_7, ⟨by decide +kernel, by decide +kernel⟩, by decide⟩
theorem mo18 : MOK (cX7_length, 1, (some .int), yX7_length, 7) := ⟨by decide +kernel, by decide +kernel, atb_mem 363 (by decide +kernel) (by decide +kernel), ini_7, ⟨by decide +kernel, by decide +kernel⟩, by decide⟩
theorem mo19 : MOK (cX11_erase, 2, (some .int), yX11_erase, 11) := ⟨by decide +kernel, by decide +kernel, atb_mem 367 (by decide +kernel) (by decide +kernel), ini_11, ⟨by decide +kernel, by decide +kernel⟩, by decide⟩
theorem mo20 : MOK (cX7_clear, 1, none, yX7_clear, 7) := ⟨by decide +kernel, by decide +kernel, atb_mem 371 (by decide +kernel) (by decide +kernel), ini_7, ⟨by decide +kernel, by decide +kernel⟩, by decide⟩
theorem mo21 : MOK (cX11_fault, 1, (some .int), yX11_fault, 11) := ⟨by decide +kernel, by decide +kernel, atb_mem 375 (by decide +kernel) (by decide +kernel), ini_11, ⟨by decide +kernel, by decide +kernel⟩, by decide⟩
theorem mo22 : MOK (cX0_copy, 2, none, yX0_copy, 0) := ⟨by decide +kernel, by decide +kernel, atb_mem 379 (by decide +kernel) (by decide +kernel), ini_0, ⟨by decide +kernel, by decide +kernel⟩, by decide⟩
theorem mo23 : MOK (cX7_read, 3, (some .int), yX7_read, 7) := ⟨by decide +kernel, by decide +kernel, atb_mem 386 (by decide +kernel) (by decide +kernel), ini_7, ⟨by decide +kernel, by decide +kernel⟩, by decide⟩
theorem mo24 : MOK (cX7_nextToken, 1, none, yX7_nextToken, 7) := ⟨by decide +kernel, by decide +kernel, atb_mem 390 (by decide +kernel) (by decide +kernel), ini_7, ⟨by decide +kernel, by decide +kernel⟩, by decide⟩
theorem mo25 : MOK (cX7_isSmall, 1, (some .boolean), yX7_isSmall, 7) := ⟨by decide +kernel, by decide +kernel, atb_mem 393 (by decide +kernel) (by decide +kernel), ini_7, ⟨by decide +kernel, by decide +kernel⟩, by decide⟩
theorem mo26 : MOK (cX7_isDigit, 1, (some .boolean), yX7_isDigit, 7) := ⟨by decide +kernel, by decide +kernel, atb_mem 396 (by decide +kernel) (by decide +kernel), ini_7, ⟨by decide +kernel, by decide +kernel⟩, by decide⟩
theorem mo27 : MOK (cX7_readClause, 2, (some .boolean), yX7_readClause, 7) := ⟨by decide +kernel, by decide +kernel, atb_mem 400 (by decide +kernel) (by decide +kernel), ini_7, ⟨by decide +kernel, by decide +kernel⟩, by decide⟩
theorem mo28 : MOK (cX7_isWord, 3, (some .boolean), yX7_isWord, 7) := ⟨by decide +kernel, by decide +kernel, atb_mem 405 (by decide +kernel) (by decide +kernel), ini_7, ⟨by decide +kernel, by decide +kernel⟩, by decide⟩
theorem mo29 : MOK (cX7_readSigns, 7, (some .boolean), yX7_readSigns, 7) := ⟨by decide +kernel, by decide +kernel, atb_mem 457 (by decide +kernel) (by decide +kernel), ini_7, ⟨by decide +kernel, by decide +kernel⟩, by decide⟩
theorem mo30 : MOK (cX7_readNumber, 6, (some .boolean), yX7_readNumber, 7) := ⟨by decide +kernel, by decide +kernel, atb_mem 461 (by decide +kernel) (by decide +kernel), ini_7, ⟨by decide +kernel, by decide +kernel⟩, by decide⟩
theorem mo31 : MOK (cX0_triplesOf, 1, (some .int), yX0_triplesOf, 0) := ⟨by decide +kernel, by decide +kernel, atb_mem 464 (by decide +kernel) (by decide +kernel), ini_0, ⟨by decide +kernel, by decide +kernel⟩, by decide⟩
theorem mo32 : MOK (cX7_isSignWord, 3, (some .boolean), yX7_isSignWord, 7) := ⟨by decide +kernel, by decide +kernel, atb_mem 468 (by decide +kernel) (by decide +kernel), ini_7, ⟨by decide +kernel, by decide +kernel⟩, by decide⟩
theorem mo33 : MOK (cX7_signTold, 1, (some .int), yX7_signTold, 7) := ⟨by decide +kernel, by decide +kernel, atb_mem 472 (by decide +kernel) (by decide +kernel), ini_7, ⟨by decide +kernel, by decide +kernel⟩, by decide⟩
theorem mo34 : MOK (cX7_readPoint, 5, (some .boolean), yX7_readPoint, 7) := ⟨by decide +kernel, by decide +kernel, atb_mem 478 (by decide +kernel) (by decide +kernel), ini_7, ⟨by decide +kernel, by decide +kernel⟩, by decide⟩
theorem mo35 : MOK (cX0_size, 1, (some .int), yX0_size, 0) := ⟨by decide +kernel, by decide +kernel, atb_mem 482 (by decide +kernel) (by decide +kernel), ini_0, ⟨by decide +kernel, by decide +kernel⟩, by decide⟩
theorem mo36 : MOK (cX7_readCoordinate, 2, (some .boolean), yX7_readCoordinate, 7) := ⟨by decide +kernel, by decide +kernel, atb_mem 486 (by decide +kernel) (by decide +kernel), ini_7, ⟨by decide +kernel, by decide +kernel⟩, by decide⟩
theorem mo37 : MOK (cX7_readFlip, 2, (some .boolean), yX7_readFlip, 7) := ⟨by decide +kernel, by decide +kernel, atb_mem 492 (by decide +kernel) (by decide +kernel), ini_7, ⟨by decide +kernel, by decide +kernel⟩, by decide⟩
theorem mo38 : MOK (cX0_reverse, 5, (some .int), yX0_reverse, 0) := ⟨by decide +kernel, by decide +kernel, atb_mem 496 (by decide +kernel) (by decide +kernel), ini_0, ⟨by decide +kernel, by decide +kernel⟩, by decide⟩
theorem mo39 : MOK (cX0_numberOf, 3, (some .int), yX0_numberOf, 0) := ⟨by decide +kernel, by decide +kernel, atb_mem 500 (by decide +kernel) (by decide +kernel), ini_0, ⟨by decide +kernel, by decide +kernel⟩, by decide⟩
theorem mo40 : MOK (cX0_signOf, 4, (some .int), yX0_signOf, 0) := ⟨by decide +kernel, by decide +kernel, atb_mem 504 (by decide +kernel) (by decide +kernel), ini_0, ⟨by decide +kernel, by decide +kernel⟩, by decide⟩
theorem mo41 : MOK (cX7_readSwap, 5, (some .boolean), yX7_readSwap, 7) := ⟨by decide +kernel, by decide +kernel, atb_mem 509 (by decide +kernel) (by decide +kernel), ini_7, ⟨by decide +kernel, by decide +kernel⟩, by decide⟩
theorem mo42 : MOK (cX0_trade, 6, (some .int), yX0_trade, 0) := ⟨by decide +kernel, by decide +kernel, atb_mem 513 (by decide +kernel) (by decide +kernel), ini_0, ⟨by decide +kernel, by decide +kernel⟩, by decide⟩
theorem mo43 : MOK (cX0_tradePoints, 6, none, yX0_tradePoints, 0) := ⟨by decide +kernel, by decide +kernel, atb_mem 517 (by decide +kernel) (by decide +kernel), ini_0, ⟨by decide +kernel, by decide +kernel⟩, by decide⟩
theorem mo44 : MOK (cX0_tradeSigns, 7, (some .int), yX0_tradeSigns, 0) := ⟨by decide +kernel, by decide +kernel, atb_mem 521 (by decide +kernel) (by decide +kernel), ini_0, ⟨by decide +kernel, by decide +kernel⟩, by decide⟩
theorem mo45 : MOK (cX7_readDraw, 2, (some .boolean), yX7_readDraw, 7) := ⟨by decide +kernel, by decide +kernel, atb_mem 525 (by decide +kernel) (by decide +kernel), ini_7, ⟨by decide +kernel, by decide +kernel⟩, by decide⟩
theorem mo46 : MOK (cX0_takeTurns, 6, (some .int), yX0_takeTurns, 0) := ⟨by decide +kernel, by decide +kernel, atb_mem 530 (by decide +kernel) (by decide +kernel), ini_0, ⟨by decide +kernel, by decide +kernel⟩, by decide⟩
theorem mo47 : MOK (cX0_turnOf, 5, (some .int), yX0_turnOf, 0) := ⟨by decide +kernel, by decide +kernel, atb_mem 534 (by decide +kernel) (by decide +kernel), ini_0, ⟨by decide +kernel, by decide +kernel⟩, by decide⟩
theorem mo48 : MOK (cX0_minor, 5, (some .int), yX0_minor, 0) := ⟨by decide +kernel, by decide +kernel, atb_mem 538 (by decide +kernel) (by decide +kernel), ini_0, ⟨by decide +kernel, by decide +kernel⟩, by decide⟩
theorem mo49 : MOK (cX11_tell, 2, (some .int), yX11_tell, 11) := ⟨by decide +kernel, by decide +kernel, atb_mem 543 (by decide +kernel) (by decide +kernel), ini_11, ⟨by decide +kernel, by decide +kernel⟩, by decide⟩
theorem mo50 : MOK (cX4_clear, 1, none, yX4_clear, 4) := ⟨by decide +kernel, by decide +kernel, atb_mem 547 (by decide +kernel) (by decide +kernel), ini_4, ⟨by decide +kernel, by decide +kernel⟩, by decide⟩
theorem mo51 : MOK (cX2_forget, 1, none, yX2_forget, 2) := ⟨by decide +kernel, by decide +kernel, atb_mem 551 (by decide +kernel) (by decide +kernel), ini_2, ⟨by decide +kernel, by decide +kernel⟩, by decide⟩
theorem mo52 : MOK (cX10_forget, 2, none, yX10_forget, 10) := ⟨by decide +kernel, by decide +kernel, atb_mem 555 (by decide +kernel) (by decide +kernel), ini_10, ⟨by decide +kernel, by decide +kernel⟩, by decide⟩
theorem mo53 : MOK (cX7_clauses, 1, (some .int), yX7_clauses, 7) := ⟨by decide +kernel, by decide +kernel, atb_mem 559 (by decide +kernel) (by decide +kernel), ini_7, ⟨by decide +kernel, by decide +kernel⟩, by decide⟩
theorem mo54 : MOK (cX11_sign, 4, (some .int), yX11_sign, 11) := ⟨by decide +kernel, by decide +kernel, atb_mem 563 (by decide +kernel) (by decide +kernel), ini_11, ⟨by decide +kernel, by decide +kernel⟩, by decide⟩
theorem mo55 : MOK (cX0_has, 2, (some .boolean), yX0_has, 0) := ⟨by decide +kernel, by decide +kernel, atb_mem 567 (by decide +kernel) (by decide +kernel), ini_0, ⟨by decide +kernel, by decide +kernel⟩, by decide⟩
theorem mo56 : MOK (cX11_turn, 4, (some .int), yX11_turn, 11) := ⟨by decide +kernel, by decide +kernel, atb_mem 572 (by decide +kernel) (by decide +kernel), ini_11, ⟨by decide +kernel, by decide +kernel⟩, by decide⟩
theorem mo57 : MOK (cX11_point, 3, (some .int), yX11_point, 11) := ⟨by decide +kernel, by decide +kernel, atb_mem 577 (by decide +kernel) (by decide +kernel), ini_11, ⟨by decide +kernel, by decide +kernel⟩, by decide⟩
theorem mo58 : MOK (cX11_set, 6, (some .int), yX11_set, 11) := ⟨by decide +kernel, by decide +kernel, atb_mem 582 (by decide +kernel) (by decide +kernel), ini_11, ⟨by decide +kernel, by decide +kernel⟩, by decide⟩
theorem mo59 : MOK (cX11_beginDeed, 1, none, yX11_beginDeed, 11) := ⟨by decide +kernel, by decide +kernel, atb_mem 586 (by decide +kernel) (by decide +kernel), ini_11, ⟨by decide +kernel, by decide +kernel⟩, by decide⟩
theorem mo60 : MOK (cX4_remember, 2, none, yX4_remember, 4) := ⟨by decide +kernel, by decide +kernel, atb_mem 590 (by decide +kernel) (by decide +kernel), ini_4, ⟨by decide +kernel, by decide +kernel⟩, by decide⟩
theorem mo61 : MOK (cX11_place, 6, (some .int), yX11_place, 11) := ⟨by decide +kernel, by decide +kernel, atb_mem 596 (by decide +kernel) (by decide +kernel), ini_11, ⟨by decide +kernel, by decide +kernel⟩, by decide⟩
theorem mo62 : MOK (cX11_isFar, 1, (some .boolean), yX11_isFar, 11) := ⟨by decide +kernel, by decide +kernel, atb_mem 599 (by decide +kernel) (by decide +kernel), ini_11, ⟨by decide +kernel, by decide +kernel⟩, by decide⟩
theorem mo63 : MOK (cX0_isAt, 5, (some .boolean), yX0_isAt, 0) := ⟨by decide +kernel, by decide +kernel, atb_mem 603 (by decide +kernel) (by decide +kernel), ini_0, ⟨by decide +kernel, by decide +kernel⟩, by decide⟩
theorem mo64 : MOK (cX11_flip, 2, (some .int), yX11_flip, 11) := ⟨by decide +kernel, by decide +kernel, atb_mem 608 (by decide +kernel) (by decide +kernel), ini_11, ⟨by decide +kernel, by decide +kernel⟩, by decide⟩
theorem mo65 : MOK (cX11_swap, 3, (some .int), yX11_swap, 11) := ⟨by decide +kernel, by decide +kernel, atb_mem 613 (by decide +kernel) (by decide +kernel), ini_11, ⟨by decide +kernel, by decide +kernel⟩, by decide⟩
theorem mo66 : MOK (cX11_add, 4, (some .int), yX11_add, 11) := ⟨by decide +kernel, by decide +kernel, atb_mem 618 (by decide +kernel) (by decide +kernel), ini_11, ⟨by decide +kernel, by decide +kernel⟩, by decide⟩
theorem mo67 : MOK (cX0_append, 7, none, yX0_append, 0) := ⟨by decide +kernel, by decide +kernel, atb_mem 623 (by decide +kernel) (by decide +kernel), ini_0, ⟨by decide +kernel, by decide +kernel⟩, by decide⟩
theorem mo68 : MOK (cX11_drop, 2, (some .int), yX11_drop, 11) := ⟨by decide +kernel, by decide +kernel, atb_mem 627 (by decide +kernel) (by decide +kernel), ini_11, ⟨by decide +kernel, by decide +kernel⟩, by decide⟩
theorem mo69 : MOK (cX0_remove, 5, none, yX0_remove, 0) := ⟨by decide +kernel, by decide +kernel, atb_mem 631 (by decide +kernel) (by decide +kernel), ini_0, ⟨by decide +kernel, by decide +kernel⟩, by decide⟩
theorem mo70 : MOK (cX11_draw, 1, (some .int), yX11_draw, 11) := ⟨by decide +kernel, by decide +kernel, atb_mem 635 (by decide +kernel) (by decide +kernel), ini_11, ⟨by decide +kernel, by decide +kernel⟩, by decide⟩
theorem mo71 : MOK (cX11_undo, 1, (some .int), yX11_undo, 11) := ⟨by decide +kernel, by decide +kernel, atb_mem 640 (by decide +kernel) (by decide +kernel), ini_11, ⟨by decide +kernel, by decide +kernel⟩, by decide⟩
theorem mo72 : MOK (cX4_size, 1, (some .int), yX4_size, 4) := ⟨by decide +kernel, by decide +kernel, atb_mem 644 (by decide +kernel) (by decide +kernel), ini_4, ⟨by decide +kernel, by decide +kernel⟩, by decide⟩
theorem mo73 : MOK (cX4_takeLatest, 2, none, yX4_takeLatest, 4) := ⟨by decide +kernel, by decide +kernel, atb_mem 648 (by decide +kernel) (by decide +kernel), ini_4, ⟨by decide +kernel, by decide +kernel⟩, by decide⟩
theorem mo74 : MOK (cX11_keep, 2, (some .int), yX11_keep, 11) := ⟨by decide +kernel, by decide +kernel, atb_mem 652 (by decide +kernel) (by decide +kernel), ini_11, ⟨by decide +kernel, by decide +kernel⟩, by decide⟩
theorem mo75 : MOK (cX11_back, 2, (some .int), yX11_back, 11) := ⟨by decide +kernel, by decide +kernel, atb_mem 656 (by decide +kernel) (by decide +kernel), ini_11, ⟨by decide +kernel, by decide +kernel⟩, by decide⟩
theorem mo76 : MOK (cX11_five, 7, (some .int), yX11_five, 11) := ⟨by decide +kernel, by decide +kernel, atb_mem 660 (by decide +kernel) (by decide +kernel), ini_11, ⟨by decide +kernel, by decide +kernel⟩, by decide⟩
theorem mo77 : MOK (cX11_areDistinct, 5, (some .boolean), yX11_areDistinct, 11) := ⟨by decide +kernel, by decide +kernel, atb_mem 663 (by decide +kernel) (by decide +kernel), ini_11, ⟨by decide +kernel, by decide +kernel⟩, by decide⟩
theorem mo78 : MOK (cJ6_bitCount_0f7a4, 1, (some .int), yJ6_bitCount_0f7a4, 17) := ⟨by decide +kernel, by decide +kernel, atb_mem 666 (by decide +kernel) (by decide +kernel), ini_17, ⟨by decide +kernel, by decide +kernel⟩, by decide⟩
theorem mo79 : MOK (cX6_isGood, 11, (some .boolean), yX6_isGood, 6) := ⟨by decide +kernel, by decide +kernel, atb_mem 672 (by decide +kernel) (by decide +kernel), ini_6, ⟨by decide +kernel, by decide +kernel⟩, by decide⟩
theorem mo80 : MOK (cX11_is, 2, (some .int), yX11_is, 11) := ⟨by decide +kernel, by decide +kernel, atb_mem 683 (by decide +kernel) (by decide +kernel), ini_11, ⟨by decide +kernel, by decide +kernel⟩, by decide⟩
theorem mo81 : MOK (cX2_hasExchange, 1, (some .boolean), yX2_hasExchange, 2) := ⟨by decide +kernel, by decide +kernel, atb_mem 687 (by decide +kernel) (by decide +kernel), ini_2, ⟨by decide +kernel, by decide +kernel⟩, by decide⟩
theorem mo82 : MOK (cX6_haveExchange, 4, (some .boolean), yX6_haveExchange, 6) := ⟨by decide +kernel, by decide +kernel, atb_mem 691 (by decide +kernel) (by decide +kernel), ini_6, ⟨by decide +kernel, by decide +kernel⟩, by decide⟩
theorem mo83 : MOK (cX6_gather, 5, none, yX6_gather, 6) := ⟨by decide +kernel, by decide +kernel, atb_mem 695 (by decide +kernel) (by decide +kernel), ini_6, ⟨by decide +kernel, by decide +kernel⟩, by decide⟩
theorem mo84 : MOK (cX6_canExchange, 4, (some .boolean), yX6_canExchange, 6) := ⟨by decide +kernel, by decide +kernel, atb_mem 700 (by decide +kernel) (by decide +kernel), ini_6, ⟨by decide +kernel, by decide +kernel⟩, by decide⟩
theorem mo85 : MOK (cX6_isMended, 4, (some .boolean), yX6_isMended, 6) := ⟨by decide +kernel, by decide +kernel, atb_mem 704 (by decide +kernel) (by decide +kernel), ini_6, ⟨by decide +kernel, by decide +kernel⟩, by decide⟩
theorem mo86 : MOK (cX2_isOrderly, 1, (some .boolean), yX2_isOrderly, 2) := ⟨by decide +kernel, by decide +kernel, atb_mem 708 (by decide +kernel) (by decide +kernel), ini_2, ⟨by decide +kernel, by decide +kernel⟩, by decide⟩
theorem mo87 : MOK (cX6_areOrderly, 2, (some .boolean), yX6_areOrderly, 6) := ⟨by decide +kernel, by decide +kernel, atb_mem 712 (by decide +kernel) (by decide +kernel), ini_6, ⟨by decide +kernel, by decide +kernel⟩, by decide⟩
theorem mo88 : MOK (cX6_badFives, 10, (some .int), yX6_badFives, 6) := ⟨by decide +kernel, by decide +kernel, atb_mem 715 (by decide +kernel) (by decide +kernel), ini_6, ⟨by decide +kernel, by decide +kernel⟩, by decide⟩
theorem mo89 : MOK (cX0_isDrawn, 4, (some .boolean), yX0_isDrawn, 0) := ⟨by decide +kernel, by decide +kernel, atb_mem 721 (by decide +kernel) (by decide +kernel), ini_0, ⟨by decide +kernel, by decide +kernel⟩, by decide⟩
theorem mo90 : MOK (cX0_bases, 5, (some .int), yX0_bases, 0) := ⟨by decide +kernel, by decide +kernel, atb_mem 725 (by decide +kernel) (by decide +kernel), ini_0, ⟨by decide +kernel, by decide +kernel⟩, by decide⟩
theorem mo91 : MOK (cX0_triples, 1, (some .int), yX0_triples, 0) := ⟨by decide +kernel, by decide +kernel, atb_mem 729 (by decide +kernel) (by decide +kernel), ini_0, ⟨by decide +kernel, by decide +kernel⟩, by decide⟩
theorem mo92 : MOK (cX11_vector, 5, (some .int), yX11_vector, 11) := ⟨by decide +kernel, by decide +kernel, atb_mem 734 (by decide +kernel) (by decide +kernel), ini_11, ⟨by decide +kernel, by decide +kernel⟩, by decide⟩
theorem mo93 : MOK (cX11_isKind, 1, (some .boolean), yX11_isKind, 11) := ⟨by decide +kernel, by decide +kernel, atb_mem 737 (by decide +kernel) (by decide +kernel), ini_11, ⟨by decide +kernel, by decide +kernel⟩, by decide⟩
theorem mo94 : MOK (cX2_canTellOf, 2, (some .boolean), yX2_canTellOf, 2) := ⟨by decide +kernel, by decide +kernel, atb_mem 741 (by decide +kernel) (by decide +kernel), ini_2, ⟨by decide +kernel, by decide +kernel⟩, by decide⟩
theorem mo95 : MOK (cX2_ofKind, 2, (some (.object "SignTriples$VectorRow")), yX2_ofKind, 2) := ⟨by decide +kernel, by decide +kernel, atb_mem 746 (by decide +kernel) (by decide +kernel), ini_2, ⟨by decide +kernel, by decide +kernel⟩, by decide⟩
theorem mo96 : MOK (cX10_cocircuits, 6, (some (.object "SignTriples$VectorRow")), yX10_cocircuits, 10) := ⟨by decide +kernel, by decide +kernel, atb_mem 750 (by decide +kernel) (by decide +kernel), ini_10, ⟨by decide +kernel, by decide +kernel⟩, by decide⟩
theorem mo97 : MOK (cX9_clear, 1, none, yX9_clear, 9) := ⟨by decide +kernel, by decide +kernel, atb_mem 754 (by decide +kernel) (by decide +kernel), ini_9, ⟨by decide +kernel, by decide +kernel⟩, by decide⟩
theorem mo98 : MOK (cJ7_fill_53178, 4, none, yJ7_fill_53178, 19) := ⟨by decide +kernel, by decide +kernel, atb_mem 757 (by decide +kernel) (by decide +kernel), ini_19, ⟨by decide +kernel, by decide +kernel⟩, by decide⟩
theorem mo99 : MOK (cX5_zero, 1, (some .int), yX5_zero, 5) := ⟨by decide +kernel, by decide +kernel, atb_mem 761 (by decide +kernel) (by decide +kernel), ini_5, ⟨by decide +kernel, by decide +kernel⟩, by decide⟩
theorem mo100 : MOK (cX10_cocircuit, 5, (some .int), yX10_cocircuit, 10) := ⟨by decide +kernel, by decide +kernel, atb_mem 764 (by decide +kernel) (by decide +kernel), ini_10, ⟨by decide +kernel, by decide +kernel⟩, by decide⟩
theorem mo101 : MOK (cX5_withNumber, 2, (some .int), yX5_withNumber, 5) := ⟨by decide +kernel, by decide +kernel, atb_mem 768 (by decide +kernel) (by decide +kernel), ini_5, ⟨by decide +kernel, by decide +kernel⟩, by decide⟩
theorem mo102 : MOK (cX10_insertBoth, 3, none, yX10_insertBoth, 10) := ⟨by decide +kernel, by decide +kernel, atb_mem 771 (by decide +kernel) (by decide +kernel), ini_10, ⟨by decide +kernel, by decide +kernel⟩, by decide⟩
theorem mo103 : MOK (cX9_insert, 3, none, yX9_insert, 9) := ⟨by decide +kernel, by decide +kernel, atb_mem 775 (by decide +kernel) (by decide +kernel), ini_9, ⟨by decide +kernel, by decide +kernel⟩, by decide⟩
theorem mo104 : MOK (cX5_opposite, 2, (some .int), yX5_opposite, 5) := ⟨by decide +kernel, by decide +kernel, atb_mem 778 (by decide +kernel) (by decide +kernel), ini_5, ⟨by decide +kernel, by decide +kernel⟩, by decide⟩
theorem mo105 : MOK (cX9_sort, 4, none, yX9_sort, 9) := ⟨by decide +kernel, by decide +kernel, atb_mem 782 (by decide +kernel) (by decide +kernel), ini_9, ⟨by decide +kernel, by decide +kernel⟩, by decide⟩
theorem mo106 : MOK (cX10_circuits, 8, (some (.object "SignTriples$VectorRow")), yX10_circuits, 10) := ⟨by decide +kernel, by decide +kernel, atb_mem 786 (by decide +kernel) (by decide +kernel), ini_10, ⟨by decide +kernel, by decide +kernel⟩, by decide⟩
theorem mo107 : MOK (cX10_circuit, 8, (some .int), yX10_circuit, 10) := ⟨by decide +kernel, by decide +kernel, atb_mem 789 (by decide +kernel) (by decide +kernel), ini_10, ⟨by decide +kernel, by decide +kernel⟩, by decide⟩
theorem mo108 : MOK (cX10_covectors, 6, (some (.object "SignTriples$VectorRow")), yX10_covectors, 10) := ⟨by decide +kernel, by decide +kernel, atb_mem 793 (by decide +kernel) (by decide +kernel), ini_10, ⟨by decide +kernel, by decide +kernel⟩, by decide⟩
theorem mo109 : MOK (cX9_length, 1, (some .int), yX9_length, 9) := ⟨by decide +kernel, by decide +kernel, atb_mem 798 (by decide +kernel) (by decide +kernel), ini_9, ⟨by decide +kernel, by decide +kernel⟩, by decide⟩
theorem mo110 : MOK (cX9_at, 2, (some .int), yX9_at, 9) := ⟨by decide +kernel, by decide +kernel, atb_mem 802 (by decide +kernel) (by decide +kernel), ini_9, ⟨by decide +kernel, by decide +kernel⟩, by decide⟩
theorem mo111 : MOK (cX5_composed, 3, (some .int), yX5_composed, 5) := ⟨by decide +kernel, by decide +kernel, atb_mem 805 (by decide +kernel) (by decide +kernel), ini_5, ⟨by decide +kernel, by decide +kernel⟩, by decide⟩
theorem mo112 : MOK (cX10_topes, 6, (some (.object "SignTriples$VectorRow")), yX10_topes, 10) := ⟨by decide +kernel, by decide +kernel, atb_mem 809 (by decide +kernel) (by decide +kernel), ini_10, ⟨by decide +kernel, by decide +kernel⟩, by decide⟩
theorem mo113 : MOK (cX5_zeros, 1, (some .int), yX5_zeros, 5) := ⟨by decide +kernel, by decide +kernel, atb_mem 813 (by decide +kernel) (by decide +kernel), ini_5, ⟨by decide +kernel, by decide +kernel⟩, by decide⟩
theorem mo114 : MOK (cX9_has, 2, (some .boolean), yX9_has, 9) := ⟨by decide +kernel, by decide +kernel, atb_mem 820 (by decide +kernel) (by decide +kernel), ini_9, ⟨by decide +kernel, by decide +kernel⟩, by decide⟩
theorem mo115 : MOK (cX5_numberAt, 3, (some .int), yX5_numberAt, 5) := ⟨by decide +kernel, by decide +kernel, atb_mem 824 (by decide +kernel) (by decide +kernel), ini_5, ⟨by decide +kernel, by decide +kernel⟩, by decide⟩
theorem mo116 : MOK (cX11_beside, 2, (some .int), yX11_beside, 11) := ⟨by decide +kernel, by decide +kernel, atb_mem 828 (by decide +kernel) (by decide +kernel), ini_11, ⟨by decide +kernel, by decide +kernel⟩, by decide⟩
theorem mo117 : MOK (cX2_graph, 1, (some (.object "SignTriples$TopeGraph")), yX2_graph, 2) := ⟨by decide +kernel, by decide +kernel, atb_mem 832 (by decide +kernel) (by decide +kernel), ini_2, ⟨by decide +kernel, by decide +kernel⟩, by decide⟩
theorem mo118 : MOK (cX8_build, 4, none, yX8_build, 8) := ⟨by decide +kernel, by decide +kernel, atb_mem 837 (by decide +kernel) (by decide +kernel), ini_8, ⟨by decide +kernel, by decide +kernel⟩, by decide⟩
theorem mo119 : MOK (cX8_isSomeBetween, 7, (some .boolean), yX8_isSomeBetween, 8) := ⟨by decide +kernel, by decide +kernel, atb_mem 843 (by decide +kernel) (by decide +kernel), ini_8, ⟨by decide +kernel, by decide +kernel⟩, by decide⟩
theorem mo120 : MOK (cX5_separation, 3, (some .int), yX5_separation, 5) := ⟨by decide +kernel, by decide +kernel, atb_mem 847 (by decide +kernel) (by decide +kernel), ini_5, ⟨by decide +kernel, by decide +kernel⟩, by decide⟩
theorem mo121 : MOK (cX8_neighbours, 2, (some .int), yX8_neighbours, 8) := ⟨by decide +kernel, by decide +kernel, atb_mem 851 (by decide +kernel) (by decide +kernel), ini_8, ⟨by decide +kernel, by decide +kernel⟩, by decide⟩
theorem mo122 : MOK (cX8_has, 2, (some .boolean), yX8_has, 8) := ⟨by decide +kernel, by decide +kernel, atb_mem 855 (by decide +kernel) (by decide +kernel), ini_8, ⟨by decide +kernel, by decide +kernel⟩, by decide⟩
theorem mo123 : MOK (cJ13_bitCount_95d88, 2, (some .int), yJ13_bitCount_95d88, 20) := ⟨by decide +kernel, by decide +kernel, atb_mem 858 (by decide +kernel) (by decide +kernel), ini_20, ⟨by decide +kernel, by decide +kernel⟩, by decide⟩
theorem mo124 : MOK (cX11_between, 6, (some .int), yX11_between, 11) := ⟨by decide +kernel, by decide +kernel, atb_mem 865 (by decide +kernel) (by decide +kernel), ini_11, ⟨by decide +kernel, by decide +kernel⟩, by decide⟩
theorem mo125 : MOK (cX8_isNext, 3, (some .boolean), yX8_isNext, 8) := ⟨by decide +kernel, by decide +kernel, atb_mem 870 (by decide +kernel) (by decide +kernel), ini_8, ⟨by decide +kernel, by decide +kernel⟩, by decide⟩
theorem mo126 : MOK (cX8_steps, 6, (some .int), yX8_steps, 8) := ⟨by decide +kernel, by decide +kernel, atb_mem 874 (by decide +kernel) (by decide +kernel), ini_8, ⟨by decide +kernel, by decide +kernel⟩, by decide⟩
theorem mo127 : MOK (cX8_nextToAny, 6, (some .long), yX8_nextToAny, 8) := ⟨by decide +kernel, by decide +kernel, atb_mem 878 (by decide +kernel) (by decide +kernel), ini_8, ⟨by decide +kernel, by decide +kernel⟩, by decide⟩
theorem mo128 : MOK (cX11_mutation, 3, (some .int), yX11_mutation, 11) := ⟨by decide +kernel, by decide +kernel, atb_mem 882 (by decide +kernel) (by decide +kernel), ini_11, ⟨by decide +kernel, by decide +kernel⟩, by decide⟩
theorem mo129 : MOK (cX2_mutations, 1, (some .int), yX2_mutations, 2) := ⟨by decide +kernel, by decide +kernel, atb_mem 886 (by decide +kernel) (by decide +kernel), ini_2, ⟨by decide +kernel, by decide +kernel⟩, by decide⟩
theorem mo130 : MOK (cX3_mutations, 7, (some .int), yX3_mutations, 3) := ⟨by decide +kernel, by decide +kernel, atb_mem 890 (by decide +kernel) (by decide +kernel), ini_3, ⟨by decide +kernel, by decide +kernel⟩, by decide⟩
theorem mo131 : MOK (cX3_isMutation, 6, (some .boolean), yX3_isMutation, 3) := ⟨by decide +kernel, by decide +kernel, atb_mem 896 (by decide +kernel) (by decide +kernel), ini_3, ⟨by decide +kernel, by decide +kernel⟩, by decide⟩
theorem mo132 : MOK (cX11_extensions, 1, (some .int), yX11_extensions, 11) := ⟨by decide +kernel, by decide +kernel, atb_mem 903 (by decide +kernel) (by decide +kernel), ini_11, ⟨by decide +kernel, by decide +kernel⟩, by decide⟩
theorem mo133 : MOK (cX2_extensionWays, 1, (some .int), yX2_extensionWays, 2) := ⟨by decide +kernel, by decide +kernel, atb_mem 907 (by decide +kernel) (by decide +kernel), ini_2, ⟨by decide +kernel, by decide +kernel⟩, by decide⟩
theorem mo134 : MOK (cX3_extensionWays, 3, (some .int), yX3_extensionWays, 3) := ⟨by decide +kernel, by decide +kernel, atb_mem 911 (by decide +kernel) (by decide +kernel), ini_3, ⟨by decide +kernel, by decide +kernel⟩, by decide⟩
theorem mo135 : MOK (cX0_widen, 1, none, yX0_widen, 0) := ⟨by decide +kernel, by decide +kernel, atb_mem 915 (by decide +kernel) (by decide +kernel), ini_0, ⟨by decide +kernel, by decide +kernel⟩, by decide⟩
theorem mo136 : MOK (cX3_ways, 7, (some .int), yX3_ways, 3) := ⟨by decide +kernel, by decide +kernel, atb_mem 918 (by decide +kernel) (by decide +kernel), ini_3, ⟨by decide +kernel, by decide +kernel⟩, by decide⟩
theorem mo137 : MOK (cX11_box, 4, (some .int), yX11_box, 11) := ⟨by decide +kernel, by decide +kernel, atb_mem 923 (by decide +kernel) (by decide +kernel), ini_11, ⟨by decide +kernel, by decide +kernel⟩, by decide⟩
theorem mo138 : MOK (cX11_isBox, 1, (some .boolean), yX11_isBox, 11) := ⟨by decide +kernel, by decide +kernel, atb_mem 926 (by decide +kernel) (by decide +kernel), ini_11, ⟨by decide +kernel, by decide +kernel⟩, by decide⟩
theorem mo139 : MOK (cX1_make, 3, none, yX1_make, 1) := ⟨by decide +kernel, by decide +kernel, atb_mem 930 (by decide +kernel) (by decide +kernel), ini_1, ⟨by decide +kernel, by decide +kernel⟩, by decide⟩
theorem mo140 : MOK (cX11_lay, 7, (some .int), yX11_lay, 11) := ⟨by decide +kernel, by decide +kernel, atb_mem 935 (by decide +kernel) (by decide +kernel), ini_11, ⟨by decide +kernel, by decide +kernel⟩, by decide⟩
theorem mo141 : MOK (cX1_isMissing, 1, (some .boolean), yX1_isMissing, 1) := ⟨by decide +kernel, by decide +kernel, atb_mem 939 (by decide +kernel) (by decide +kernel), ini_1, ⟨by decide +kernel, by decide +kernel⟩, by decide⟩
theorem mo142 : MOK (cX1_hasPlace, 2, (some .boolean), yX1_hasPlace, 1) := ⟨by decide +kernel, by decide +kernel, atb_mem 943 (by decide +kernel) (by decide +kernel), ini_1, ⟨by decide +kernel, by decide +kernel⟩, by decide⟩
theorem mo143 : MOK (cX1_isMadeFor, 2, (some .boolean), yX1_isMadeFor, 1) := ⟨by decide +kernel, by decide +kernel, atb_mem 947 (by decide +kernel) (by decide +kernel), ini_1, ⟨by decide +kernel, by decide +kernel⟩, by decide⟩
theorem mo144 : MOK (cX1_put, 4, none, yX1_put, 1) := ⟨by decide +kernel, by decide +kernel, atb_mem 952 (by decide +kernel) (by decide +kernel), ini_1, ⟨by decide +kernel, by decide +kernel⟩, by decide⟩
theorem mo145 : MOK (cX11_compose, 6, (some .int), yX11_compose, 11) := ⟨by decide +kernel, by decide +kernel, atb_mem 957 (by decide +kernel) (by decide +kernel), ini_11, ⟨by decide +kernel, by decide +kernel⟩, by decide⟩
theorem mo146 : MOK (cX1_isEmptyAt, 2, (some .boolean), yX1_isEmptyAt, 1) := ⟨by decide +kernel, by decide +kernel, atb_mem 961 (by decide +kernel) (by decide +kernel), ini_1, ⟨by decide +kernel, by decide +kernel⟩, by decide⟩
theorem mo147 : MOK (cX1_elementsAt, 2, (some .int), yX1_elementsAt, 1) := ⟨by decide +kernel, by decide +kernel, atb_mem 965 (by decide +kernel) (by decide +kernel), ini_1, ⟨by decide +kernel, by decide +kernel⟩, by decide⟩
theorem mo148 : MOK (cX1_keyAt, 2, (some .int), yX1_keyAt, 1) := ⟨by decide +kernel, by decide +kernel, atb_mem 969 (by decide +kernel) (by decide +kernel), ini_1, ⟨by decide +kernel, by decide +kernel⟩, by decide⟩
theorem mo149 : MOK (cX11_seen, 6, (some .int), yX11_seen, 11) := ⟨by decide +kernel, by decide +kernel, atb_mem 974 (by decide +kernel) (by decide +kernel), ini_11, ⟨by decide +kernel, by decide +kernel⟩, by decide⟩
theorem mo150 : MOK (cX11_refusalAt, 3, (some .int), yX11_refusalAt, 11) := ⟨by decide +kernel, by decide +kernel, atb_mem 978 (by decide +kernel) (by decide +kernel), ini_11, ⟨by decide +kernel, by decide +kernel⟩, by decide⟩
theorem mo151 : MOK (cX11_find, 5, (some .int), yX11_find, 11) := ⟨by decide +kernel, by decide +kernel, atb_mem 982 (by decide +kernel) (by decide +kernel), ini_11, ⟨by decide +kernel, by decide +kernel⟩, by decide⟩
theorem mo152 : MOK (cX9_indexOf, 3, (some .int), yX9_indexOf, 9) := ⟨by decide +kernel, by decide +kernel, atb_mem 986 (by decide +kernel) (by decide +kernel), ini_9, ⟨by decide +kernel, by decide +kernel⟩, by decide⟩
theorem mo153 : MOK (cX11_away, 3, (some .int), yX11_away, 11) := ⟨by decide +kernel, by decide +kernel, atb_mem 990 (by decide +kernel) (by decide +kernel), ini_11, ⟨by decide +kernel, by decide +kernel⟩, by decide⟩
theorem mo154 : MOK (cX1_vectors, 3, (some .int), yX1_vectors, 1) := ⟨by decide +kernel, by decide +kernel, atb_mem 994 (by decide +kernel) (by decide +kernel), ini_1, ⟨by decide +kernel, by decide +kernel⟩, by decide⟩
theorem mo155 : MOK (cX1_vanish, 1, none, yX1_vanish, 1) := ⟨by decide +kernel, by decide +kernel, atb_mem 999 (by decide +kernel) (by decide +kernel), ini_1, ⟨by decide +kernel, by decide +kernel⟩, by decide⟩
theorem mo156 : MOK (cX11_count, 2, (some .int), yX11_count, 11) := ⟨by decide +kernel, by decide +kernel, atb_mem 1003 (by decide +kernel) (by decide +kernel), ini_11, ⟨by decide +kernel, by decide +kernel⟩, by decide⟩
theorem mo157 : MOK (cX2_loops, 1, (some .int), yX2_loops, 2) := ⟨by decide +kernel, by decide +kernel, atb_mem 1008 (by decide +kernel) (by decide +kernel), ini_2, ⟨by decide +kernel, by decide +kernel⟩, by decide⟩
theorem mo158 : MOK (cX6_loops, 4, (some .int), yX6_loops, 6) := ⟨by decide +kernel, by decide +kernel, atb_mem 1012 (by decide +kernel) (by decide +kernel), ini_6, ⟨by decide +kernel, by decide +kernel⟩, by decide⟩
theorem mo159 : MOK (cX2_parallels, 1, (some .int), yX2_parallels, 2) := ⟨by decide +kernel, by decide +kernel, atb_mem 1016 (by decide +kernel) (by decide +kernel), ini_2, ⟨by decide +kernel, by decide +kernel⟩, by decide⟩
theorem mo160 : MOK (cX6_parallels, 7, (some .int), yX6_parallels, 6) := ⟨by decide +kernel, by decide +kernel, atb_mem 1020 (by decide +kernel) (by decide +kernel), ini_6, ⟨by decide +kernel, by decide +kernel⟩, by decide⟩
theorem mo161 : MOK (cX6_isInBase, 3, (some .boolean), yX6_isInBase, 6) := ⟨by decide +kernel, by decide +kernel, atb_mem 1025 (by decide +kernel) (by decide +kernel), ini_6, ⟨by decide +kernel, by decide +kernel⟩, by decide⟩
theorem mo162 : MOK (cX11_vectorsOnBoxes, 3, (some .int), yX11_vectorsOnBoxes, 11) := ⟨by decide +kernel, by decide +kernel, atb_mem 1029 (by decide +kernel) (by decide +kernel), ini_11, ⟨by decide +kernel, by decide +kernel⟩, by decide⟩
theorem mo163 : MOK (cX12_init, 1, none, yX12_init, 12) := ⟨by decide +kernel, by decide +kernel, atb_mem 1034 (by decide +kernel) (by decide +kernel), ini_12, ⟨by decide +kernel, by decide +kernel⟩, by decide⟩
theorem mo164 : MOK (cX12_pointsAnew, 2, none, yX12_pointsAnew, 12) := ⟨by decide +kernel, by decide +kernel, atb_mem 1039 (by decide +kernel) (by decide +kernel), ini_12, ⟨by decide +kernel, by decide +kernel⟩, by decide⟩
theorem mo165 : MOK (cX12_write, 2, (some .int), yX12_write, 12) := ⟨by decide +kernel, by decide +kernel, atb_mem 1113 (by decide +kernel) (by decide +kernel), ini_12, ⟨by decide +kernel, by decide +kernel⟩, by decide⟩
theorem mo166 : MOK (cX12_in, 6, (some .boolean), yX12_in, 12) := ⟨by decide +kernel, by decide +kernel, atb_mem 1117 (by decide +kernel) (by decide +kernel), ini_12, ⟨by decide +kernel, by decide +kernel⟩, by decide⟩
theorem mo167 : MOK (cX12_erase, 2, (some .int), yX12_erase, 12) := ⟨by decide +kernel, by decide +kernel, atb_mem 1121 (by decide +kernel) (by decide +kernel), ini_12, ⟨by decide +kernel, by decide +kernel⟩, by decide⟩
theorem mo168 : MOK (cX12_fault, 1, (some .int), yX12_fault, 12) := ⟨by decide +kernel, by decide +kernel, atb_mem 1125 (by decide +kernel) (by decide +kernel), ini_12, ⟨by decide +kernel, by decide +kernel⟩, by decide⟩
theorem mo169 : MOK (cX12_readsAll, 3, (some .boolean), yX12_readsAll, 12) := ⟨by decide +kernel, by decide +kernel, atb_mem 1129 (by decide +kernel) (by decide +kernel), ini_12, ⟨by decide +kernel, by decide +kernel⟩, by decide⟩
theorem mo170 : MOK (cX12_n, 1, (some .int), yX12_n, 12) := ⟨by decide +kernel, by decide +kernel, atb_mem 1133 (by decide +kernel) (by decide +kernel), ini_12, ⟨by decide +kernel, by decide +kernel⟩, by decide⟩
theorem mo171 : MOK (cX12_next, 1, none, yX12_next, 12) := ⟨by decide +kernel, by decide +kernel, atb_mem 1137 (by decide +kernel) (by decide +kernel), ini_12, ⟨by decide +kernel, by decide +kernel⟩, by decide⟩
theorem mo172 : MOK (cX12_isSmall, 1, (some .boolean), yX12_isSmall, 12) := ⟨by decide +kernel, by decide +kernel, atb_mem 1140 (by decide +kernel) (by decide +kernel), ini_12, ⟨by decide +kernel, by decide +kernel⟩, by decide⟩
theorem mo173 : MOK (cX12_isDigit, 1, (some .boolean), yX12_isDigit, 12) := ⟨by decide +kernel, by decide +kernel, atb_mem 1145 (by decide +kernel) (by decide +kernel), ini_12, ⟨by decide +kernel, by decide +kernel⟩, by decide⟩
theorem mo174 : MOK (cX12_readsClause, 2, (some .boolean), yX12_readsClause, 12) := ⟨by decide +kernel, by decide +kernel, atb_mem 1151 (by decide +kernel) (by decide +kernel), ini_12, ⟨by decide +kernel, by decide +kernel⟩, by decide⟩
theorem mo175 : MOK (cX12_isWord, 7, (some .boolean), yX12_isWord, 12) := ⟨by decide +kernel, by decide +kernel, atb_mem 1155 (by decide +kernel) (by decide +kernel), ini_12, ⟨by decide +kernel, by decide +kernel⟩, by decide⟩
theorem mo176 : MOK (cX12_readsSigns, 7, (some .boolean), yX12_readsSigns, 12) := ⟨by decide +kernel, by decide +kernel, atb_mem 1159 (by decide +kernel) (by decide +kernel), ini_12, ⟨by decide +kernel, by decide +kernel⟩, by decide⟩
theorem mo177 : MOK (cX12_reads, 6, (some .boolean), yX12_reads, 12) := ⟨by decide +kernel, by decide +kernel, atb_mem 1163 (by decide +kernel) (by decide +kernel), ini_12, ⟨by decide +kernel, by decide +kernel⟩, by decide⟩
theorem mo178 : MOK (cX12_triples, 1, (some .int), yX12_triples, 12) := ⟨by decide +kernel, by decide +kernel, atb_mem 1166 (by decide +kernel) (by decide +kernel), ini_12, ⟨by decide +kernel, by decide +kernel⟩, by decide⟩
theorem mo179 : MOK (cX12_anew, 2, none, yX12_anew, 12) := ⟨by decide +kernel, by decide +kernel, atb_mem 1170 (by decide +kernel) (by decide +kernel), ini_12, ⟨by decide +kernel, by decide +kernel⟩, by decide⟩
theorem mo180 : MOK (cX12_signs, 7, none, yX12_signs, 12) := ⟨by decide +kernel, by decide +kernel, atb_mem 1174 (by decide +kernel) (by decide +kernel), ini_12, ⟨by decide +kernel, by decide +kernel⟩, by decide⟩
theorem mo181 : MOK (cX12_low, 3, (some .int), yX12_low, 12) := ⟨by decide +kernel, by decide +kernel, atb_mem 1177 (by decide +kernel) (by decide +kernel), ini_12, ⟨by decide +kernel, by decide +kernel⟩, by decide⟩
theorem mo182 : MOK (cX12_high, 3, (some .int), yX12_high, 12) := ⟨by decide +kernel, by decide +kernel, atb_mem 1180 (by decide +kernel) (by decide +kernel), ini_12, ⟨by decide +kernel, by decide +kernel⟩, by decide⟩
theorem mo183 : MOK (cX12_placeOf, 5, (some .int), yX12_placeOf, 12) := ⟨by decide +kernel, by decide +kernel, atb_mem 1183 (by decide +kernel) (by decide +kernel), ini_12, ⟨by decide +kernel, by decide +kernel⟩, by decide⟩
theorem mo184 : MOK (cX12_turnsOf, 4, (some .int), yX12_turnsOf, 12) := ⟨by decide +kernel, by decide +kernel, atb_mem 1186 (by decide +kernel) (by decide +kernel), ini_12, ⟨by decide +kernel, by decide +kernel⟩, by decide⟩
theorem mo185 : MOK (cX12_readsPoint, 3, (some .boolean), yX12_readsPoint, 12) := ⟨by decide +kernel, by decide +kernel, atb_mem 1190 (by decide +kernel) (by decide +kernel), ini_12, ⟨by decide +kernel, by decide +kernel⟩, by decide⟩
theorem mo186 : MOK (cX12_isHere, 2, (some .boolean), yX12_isHere, 12) := ⟨by decide +kernel, by decide +kernel, atb_mem 1194 (by decide +kernel) (by decide +kernel), ini_12, ⟨by decide +kernel, by decide +kernel⟩, by decide⟩
theorem mo187 : MOK (cX12_flips, 6, (some .int), yX12_flips, 12) := ⟨by decide +kernel, by decide +kernel, atb_mem 1198 (by decide +kernel) (by decide +kernel), ini_12, ⟨by decide +kernel, by decide +kernel⟩, by decide⟩
theorem mo188 : MOK (cX12_signOf, 7, (some .int), yX12_signOf, 12) := ⟨by decide +kernel, by decide +kernel, atb_mem 1202 (by decide +kernel) (by decide +kernel), ini_12, ⟨by decide +kernel, by decide +kernel⟩, by decide⟩
theorem mo189 : MOK (cX12_coordinate, 3, (some .int), yX12_coordinate, 12) := ⟨by decide +kernel, by decide +kernel, atb_mem 1206 (by decide +kernel) (by decide +kernel), ini_12, ⟨by decide +kernel, by decide +kernel⟩, by decide⟩
theorem mo190 : MOK (cX12_points, 5, none, yX12_points, 12) := ⟨by decide +kernel, by decide +kernel, atb_mem 1210 (by decide +kernel) (by decide +kernel), ini_12, ⟨by decide +kernel, by decide +kernel⟩, by decide⟩
theorem mo191 : MOK (cX12_readsSwap, 2, (some .boolean), yX12_readsSwap, 12) := ⟨by decide +kernel, by decide +kernel, atb_mem 1214 (by decide +kernel) (by decide +kernel), ini_12, ⟨by decide +kernel, by decide +kernel⟩, by decide⟩
theorem mo192 : MOK (cX12_valueHere, 3, (some .int), yX12_valueHere, 12) := ⟨by decide +kernel, by decide +kernel, atb_mem 1218 (by decide +kernel) (by decide +kernel), ini_12, ⟨by decide +kernel, by decide +kernel⟩, by decide⟩
theorem mo193 : MOK (cX12_swaps, 8, (some .int), yX12_swaps, 12) := ⟨by decide +kernel, by decide +kernel, atb_mem 1222 (by decide +kernel) (by decide +kernel), ini_12, ⟨by decide +kernel, by decide +kernel⟩, by decide⟩
theorem mo194 : MOK (cX12_under, 3, (some .int), yX12_under, 12) := ⟨by decide +kernel, by decide +kernel, atb_mem 1225 (by decide +kernel) (by decide +kernel), ini_12, ⟨by decide +kernel, by decide +kernel⟩, by decide⟩
theorem mo195 : MOK (cX12_wasSign, 6, (some .int), yX12_wasSign, 12) := ⟨by decide +kernel, by decide +kernel, atb_mem 1229 (by decide +kernel) (by decide +kernel), ini_12, ⟨by decide +kernel, by decide +kernel⟩, by decide⟩
theorem mo196 : MOK (cX12_draws, 6, (some .int), yX12_draws, 12) := ⟨by decide +kernel, by decide +kernel, atb_mem 1233 (by decide +kernel) (by decide +kernel), ini_12, ⟨by decide +kernel, by decide +kernel⟩, by decide⟩
theorem mo197 : MOK (cX12_turnOf, 8, (some .int), yX12_turnOf, 12) := ⟨by decide +kernel, by decide +kernel, atb_mem 1237 (by decide +kernel) (by decide +kernel), ini_12, ⟨by decide +kernel, by decide +kernel⟩, by decide⟩
theorem mo198 : MOK (cX12_tell, 1, (some .int), yX12_tell, 12) := ⟨by decide +kernel, by decide +kernel, atb_mem 1241 (by decide +kernel) (by decide +kernel), ini_12, ⟨by decide +kernel, by decide +kernel⟩, by decide⟩
theorem mo199 : MOK (cX12_sign, 4, (some .int), yX12_sign, 12) := ⟨by decide +kernel, by decide +kernel, atb_mem 1245 (by decide +kernel) (by decide +kernel), ini_12, ⟨by decide +kernel, by decide +kernel⟩, by decide⟩
theorem mo200 : MOK (cX12_areThree, 4, (some .boolean), yX12_areThree, 12) := ⟨by decide +kernel, by decide +kernel, atb_mem 1249 (by decide +kernel) (by decide +kernel), ini_12, ⟨by decide +kernel, by decide +kernel⟩, by decide⟩
theorem mo201 : MOK (cX12_isElement, 2, (some .boolean), yX12_isElement, 12) := ⟨by decide +kernel, by decide +kernel, atb_mem 1253 (by decide +kernel) (by decide +kernel), ini_12, ⟨by decide +kernel, by decide +kernel⟩, by decide⟩
theorem mo202 : MOK (cX12_turn, 4, (some .int), yX12_turn, 12) := ⟨by decide +kernel, by decide +kernel, atb_mem 1257 (by decide +kernel) (by decide +kernel), ini_12, ⟨by decide +kernel, by decide +kernel⟩, by decide⟩
theorem mo203 : MOK (cX12_point, 3, (some .int), yX12_point, 12) := ⟨by decide +kernel, by decide +kernel, atb_mem 1261 (by decide +kernel) (by decide +kernel), ini_12, ⟨by decide +kernel, by decide +kernel⟩, by decide⟩
theorem mo204 : MOK (cX12_set, 6, (some .int), yX12_set, 12) := ⟨by decide +kernel, by decide +kernel, atb_mem 1266 (by decide +kernel) (by decide +kernel), ini_12, ⟨by decide +kernel, by decide +kernel⟩, by decide⟩
theorem mo205 : MOK (cX12_notes, 2, none, yX12_notes, 12) := ⟨by decide +kernel, by decide +kernel, atb_mem 1271 (by decide +kernel) (by decide +kernel), ini_12, ⟨by decide +kernel, by decide +kernel⟩, by decide⟩
theorem mo206 : MOK (cX12_copyRow, 4, none, yX12_copyRow, 12) := ⟨by decide +kernel, by decide +kernel, atb_mem 1275 (by decide +kernel) (by decide +kernel), ini_12, ⟨by decide +kernel, by decide +kernel⟩, by decide⟩
theorem mo207 : MOK (cX12_place, 6, (some .int), yX12_place, 12) := ⟨by decide +kernel, by decide +kernel, atb_mem 1279 (by decide +kernel) (by decide +kernel), ini_12, ⟨by decide +kernel, by decide +kernel⟩, by decide⟩
theorem mo208 : MOK (cX12_isCoordinate, 1, (some .boolean), yX12_isCoordinate, 12) := ⟨by decide +kernel, by decide +kernel, atb_mem 1282 (by decide +kernel) (by decide +kernel), ini_12, ⟨by decide +kernel, by decide +kernel⟩, by decide⟩
theorem mo209 : MOK (cX12_flip, 2, (some .int), yX12_flip, 12) := ⟨by decide +kernel, by decide +kernel, atb_mem 1288 (by decide +kernel) (by decide +kernel), ini_12, ⟨by decide +kernel, by decide +kernel⟩, by decide⟩
theorem mo210 : MOK (cX12_swap, 3, (some .int), yX12_swap, 12) := ⟨by decide +kernel, by decide +kernel, atb_mem 1292 (by decide +kernel) (by decide +kernel), ini_12, ⟨by decide +kernel, by decide +kernel⟩, by decide⟩
theorem mo211 : MOK (cX12_add, 7, (some .int), yX12_add, 12) := ⟨by decide +kernel, by decide +kernel, atb_mem 1296 (by decide +kernel) (by decide +kernel), ini_12, ⟨by decide +kernel, by decide +kernel⟩, by decide⟩
theorem mo212 : MOK (cX12_drop, 5, (some .int), yX12_drop, 12) := ⟨by decide +kernel, by decide +kernel, atb_mem 1300 (by decide +kernel) (by decide +kernel), ini_12, ⟨by decide +kernel, by decide +kernel⟩, by decide⟩
theorem mo213 : MOK (cX12_draw, 1, (some .int), yX12_draw, 12) := ⟨by decide +kernel, by decide +kernel, atb_mem 1304 (by decide +kernel) (by decide +kernel), ini_12, ⟨by decide +kernel, by decide +kernel⟩, by decide⟩
theorem mo214 : MOK (cX12_undo, 1, (some .int), yX12_undo, 12) := ⟨by decide +kernel, by decide +kernel, atb_mem 1308 (by decide +kernel) (by decide +kernel), ini_12, ⟨by decide +kernel, by decide +kernel⟩, by decide⟩
theorem mo215 : MOK (cX12_keep, 2, (some .int), yX12_keep, 12) := ⟨by decide +kernel, by decide +kernel, atb_mem 1312 (by decide +kernel) (by decide +kernel), ini_12, ⟨by decide +kernel, by decide +kernel⟩, by decide⟩
theorem mo216 : MOK (cX12_back, 2, (some .int), yX12_back, 12) := ⟨by decide +kernel, by decide +kernel, atb_mem 1316 (by decide +kernel) (by decide +kernel), ini_12, ⟨by decide +kernel, by decide +kernel⟩, by decide⟩
theorem mo217 : MOK (cX12_five, 8, (some .int), yX12_five, 12) := ⟨by decide +kernel, by decide +kernel, atb_mem 1320 (by decide +kernel) (by decide +kernel), ini_12, ⟨by decide +kernel, by decide +kernel⟩, by decide⟩
theorem mo218 : MOK (cX12_isGood, 11, (some .boolean), yX12_isGood, 12) := ⟨by decide +kernel, by decide +kernel, atb_mem 1324 (by decide +kernel) (by decide +kernel), ini_12, ⟨by decide +kernel, by decide +kernel⟩, by decide⟩
theorem mo219 : MOK (cX12_is, 2, (some .int), yX12_is, 12) := ⟨by decide +kernel, by decide +kernel, atb_mem 1328 (by decide +kernel) (by decide +kernel), ini_12, ⟨by decide +kernel, by decide +kernel⟩, by decide⟩
theorem mo220 : MOK (cX12_isExchange, 5, (some .boolean), yX12_isExchange, 12) := ⟨by decide +kernel, by decide +kernel, atb_mem 1332 (by decide +kernel) (by decide +kernel), ini_12, ⟨by decide +kernel, by decide +kernel⟩, by decide⟩
theorem mo221 : MOK (cX12_bases, 5, (some .int), yX12_bases, 12) := ⟨by decide +kernel, by decide +kernel, atb_mem 1336 (by decide +kernel) (by decide +kernel), ini_12, ⟨by decide +kernel, by decide +kernel⟩, by decide⟩
theorem mo222 : MOK (cX12_isBase, 4, (some .boolean), yX12_isBase, 12) := ⟨by decide +kernel, by decide +kernel, atb_mem 1340 (by decide +kernel) (by decide +kernel), ini_12, ⟨by decide +kernel, by decide +kernel⟩, by decide⟩
theorem mo223 : MOK (cX12_areExchangeable, 8, (some .boolean), yX12_areExchangeable, 12) := ⟨by decide +kernel, by decide +kernel, atb_mem 1344 (by decide +kernel) (by decide +kernel), ini_12, ⟨by decide +kernel, by decide +kernel⟩, by decide⟩
theorem mo224 : MOK (cX12_exchangeable, 10, (some .boolean), yX12_exchangeable, 12) := ⟨by decide +kernel, by decide +kernel, atb_mem 1348 (by decide +kernel) (by decide +kernel), ini_12, ⟨by decide +kernel, by decide +kernel⟩, by decide⟩
theorem mo225 : MOK (cX12_exchanges, 12, (some .boolean), yX12_exchanges, 12) := ⟨by decide +kernel, by decide +kernel, atb_mem 1352 (by decide +kernel) (by decide +kernel), ini_12, ⟨by decide +kernel, by decide +kernel⟩, by decide⟩
theorem mo226 : MOK (cX12_isOrderly, 1, (some .boolean), yX12_isOrderly, 12) := ⟨by decide +kernel, by decide +kernel, atb_mem 1356 (by decide +kernel) (by decide +kernel), ini_12, ⟨by decide +kernel, by decide +kernel⟩, by decide⟩
theorem mo227 : MOK (cX12_badFives, 4, (some .int), yX12_badFives, 12) := ⟨by decide +kernel, by decide +kernel, atb_mem 1360 (by decide +kernel) (by decide +kernel), ini_12, ⟨by decide +kernel, by decide +kernel⟩, by decide⟩
theorem mo228 : MOK (cX12_besides, 5, (some .int), yX12_besides, 12) := ⟨by decide +kernel, by decide +kernel, atb_mem 1363 (by decide +kernel) (by decide +kernel), ini_12, ⟨by decide +kernel, by decide +kernel⟩, by decide⟩
theorem mo229 : MOK (cX12_isDrawn, 5, (some .boolean), yX12_isDrawn, 12) := ⟨by decide +kernel, by decide +kernel, atb_mem 1367 (by decide +kernel) (by decide +kernel), ini_12, ⟨by decide +kernel, by decide +kernel⟩, by decide⟩
theorem mo230 : MOK (cX12_vector, 5, (some .int), yX12_vector, 12) := ⟨by decide +kernel, by decide +kernel, atb_mem 1371 (by decide +kernel) (by decide +kernel), ini_12, ⟨by decide +kernel, by decide +kernel⟩, by decide⟩
theorem mo231 : MOK (cX12_isBarred, 2, (some .boolean), yX12_isBarred, 12) := ⟨by decide +kernel, by decide +kernel, atb_mem 1376 (by decide +kernel) (by decide +kernel), ini_12, ⟨by decide +kernel, by decide +kernel⟩, by decide⟩
theorem mo232 : MOK (cX12_marksKind, 3, none, yX12_marksKind, 12) := ⟨by decide +kernel, by decide +kernel, atb_mem 1380 (by decide +kernel) (by decide +kernel), ini_12, ⟨by decide +kernel, by decide +kernel⟩, by decide⟩
theorem mo233 : MOK (cX12_power, 3, (some .int), yX12_power, 12) := ⟨by decide +kernel, by decide +kernel, atb_mem 1383 (by decide +kernel) (by decide +kernel), ini_12, ⟨by decide +kernel, by decide +kernel⟩, by decide⟩
theorem mo234 : MOK (cX12_marksCocircuits, 4, none, yX12_marksCocircuits, 12) := ⟨by decide +kernel, by decide +kernel, atb_mem 1387 (by decide +kernel) (by decide +kernel), ini_12, ⟨by decide +kernel, by decide +kernel⟩, by decide⟩
theorem mo235 : MOK (cX12_marksBoth, 2, none, yX12_marksBoth, 12) := ⟨by decide +kernel, by decide +kernel, atb_mem 1391 (by decide +kernel) (by decide +kernel), ini_12, ⟨by decide +kernel, by decide +kernel⟩, by decide⟩
theorem mo236 : MOK (cX12_codeOf, 3, (some .int), yX12_codeOf, 12) := ⟨by decide +kernel, by decide +kernel, atb_mem 1395 (by decide +kernel) (by decide +kernel), ini_12, ⟨by decide +kernel, by decide +kernel⟩, by decide⟩
theorem mo237 : MOK (cX12_zeros, 4, (some .int), yX12_zeros, 12) := ⟨by decide +kernel, by decide +kernel, atb_mem 1398 (by decide +kernel) (by decide +kernel), ini_12, ⟨by decide +kernel, by decide +kernel⟩, by decide⟩
theorem mo238 : MOK (cX12_digit, 3, (some .int), yX12_digit, 12) := ⟨by decide +kernel, by decide +kernel, atb_mem 1401 (by decide +kernel) (by decide +kernel), ini_12, ⟨by decide +kernel, by decide +kernel⟩, by decide⟩
theorem mo239 : MOK (cX12_marksCircuits, 6, none, yX12_marksCircuits, 12) := ⟨by decide +kernel, by decide +kernel, atb_mem 1405 (by decide +kernel) (by decide +kernel), ini_12, ⟨by decide +kernel, by decide +kernel⟩, by decide⟩
theorem mo240 : MOK (cX12_marksCovectors, 5, none, yX12_marksCovectors, 12) := ⟨by decide +kernel, by decide +kernel, atb_mem 1409 (by decide +kernel) (by decide +kernel), ini_12, ⟨by decide +kernel, by decide +kernel⟩, by decide⟩
theorem mo241 : MOK (cX12_areAcross, 7, (some .boolean), yX12_areAcross, 12) := ⟨by decide +kernel, by decide +kernel, atb_mem 1413 (by decide +kernel) (by decide +kernel), ini_12, ⟨by decide +kernel, by decide +kernel⟩, by decide⟩
theorem mo242 : MOK (cX12_marksTopes, 3, none, yX12_marksTopes, 12) := ⟨by decide +kernel, by decide +kernel, atb_mem 1417 (by decide +kernel) (by decide +kernel), ini_12, ⟨by decide +kernel, by decide +kernel⟩, by decide⟩
theorem mo243 : MOK (cX12_marked, 3, (some .int), yX12_marked, 12) := ⟨by decide +kernel, by decide +kernel, atb_mem 1421 (by decide +kernel) (by decide +kernel), ini_12, ⟨by decide +kernel, by decide +kernel⟩, by decide⟩
theorem mo244 : MOK (cX12_markedAt, 4, (some .int), yX12_markedAt, 12) := ⟨by decide +kernel, by decide +kernel, atb_mem 1425 (by decide +kernel) (by decide +kernel), ini_12, ⟨by decide +kernel, by decide +kernel⟩, by decide⟩
theorem mo245 : MOK (cX12_beside, 4, (some .int), yX12_beside, 12) := ⟨by decide +kernel, by decide +kernel, atb_mem 1429 (by decide +kernel) (by decide +kernel), ini_12, ⟨by decide +kernel, by decide +kernel⟩, by decide⟩
theorem mo246 : MOK (cX12_findsTopes, 2, none, yX12_findsTopes, 12) := ⟨by decide +kernel, by decide +kernel, atb_mem 1433 (by decide +kernel) (by decide +kernel), ini_12, ⟨by decide +kernel, by decide +kernel⟩, by decide⟩
theorem mo247 : MOK (cX12_isNext, 5, (some .boolean), yX12_isNext, 12) := ⟨by decide +kernel, by decide +kernel, atb_mem 1437 (by decide +kernel) (by decide +kernel), ini_12, ⟨by decide +kernel, by decide +kernel⟩, by decide⟩
theorem mo248 : MOK (cX12_apart, 5, (some .int), yX12_apart, 12) := ⟨by decide +kernel, by decide +kernel, atb_mem 1441 (by decide +kernel) (by decide +kernel), ini_12, ⟨by decide +kernel, by decide +kernel⟩, by decide⟩
theorem mo249 : MOK (cX12_between, 4, (some .int), yX12_between, 12) := ⟨by decide +kernel, by decide +kernel, atb_mem 1445 (by decide +kernel) (by decide +kernel), ini_12, ⟨by decide +kernel, by decide +kernel⟩, by decide⟩
theorem mo250 : MOK (cX12_ones, 3, (some .int), yX12_ones, 12) := ⟨by decide +kernel, by decide +kernel, atb_mem 1448 (by decide +kernel) (by decide +kernel), ini_12, ⟨by decide +kernel, by decide +kernel⟩, by decide⟩
theorem mo251 : MOK (cX12_steps, 6, (some .int), yX12_steps, 12) := ⟨by decide +kernel, by decide +kernel, atb_mem 1452 (by decide +kernel) (by decide +kernel), ini_12, ⟨by decide +kernel, by decide +kernel⟩, by decide⟩
theorem mo252 : MOK (cX12_mutation, 8, (some .int), yX12_mutation, 12) := ⟨by decide +kernel, by decide +kernel, atb_mem 1456 (by decide +kernel) (by decide +kernel), ini_12, ⟨by decide +kernel, by decide +kernel⟩, by decide⟩
theorem mo253 : MOK (cX12_isMutation, 6, (some .boolean), yX12_isMutation, 12) := ⟨by decide +kernel, by decide +kernel, atb_mem 1460 (by decide +kernel) (by decide +kernel), ini_12, ⟨by decide +kernel, by decide +kernel⟩, by decide⟩
theorem mo254 : MOK (cX12_extensions, 8, (some .int), yX12_extensions, 12) := ⟨by decide +kernel, by decide +kernel, atb_mem 1464 (by decide +kernel) (by decide +kernel), ini_12, ⟨by decide +kernel, by decide +kernel⟩, by decide⟩
theorem mo255 : MOK (cX12_box, 5, (some .int), yX12_box, 12) := ⟨by decide +kernel, by decide +kernel, atb_mem 1468 (by decide +kernel) (by decide +kernel), ini_12, ⟨by decide +kernel, by decide +kernel⟩, by decide⟩
theorem mo256 : MOK (cX12_isBox, 1, (some .boolean), yX12_isBox, 12) := ⟨by decide +kernel, by decide +kernel, atb_mem 1471 (by decide +kernel) (by decide +kernel), ini_12, ⟨by decide +kernel, by decide +kernel⟩, by decide⟩
theorem mo257 : MOK (cX12_lay, 8, (some .int), yX12_lay, 12) := ⟨by decide +kernel, by decide +kernel, atb_mem 1475 (by decide +kernel) (by decide +kernel), ini_12, ⟨by decide +kernel, by decide +kernel⟩, by decide⟩
theorem mo258 : MOK (cX12_finds, 3, (some .int), yX12_finds, 12) := ⟨by decide +kernel, by decide +kernel, atb_mem 1479 (by decide +kernel) (by decide +kernel), ini_12, ⟨by decide +kernel, by decide +kernel⟩, by decide⟩
theorem mo259 : MOK (cX12_compose, 10, (some .int), yX12_compose, 12) := ⟨by decide +kernel, by decide +kernel, atb_mem 1483 (by decide +kernel) (by decide +kernel), ini_12, ⟨by decide +kernel, by decide +kernel⟩, by decide⟩
theorem mo260 : MOK (cX12_seen, 7, (some .int), yX12_seen, 12) := ⟨by decide +kernel, by decide +kernel, atb_mem 1487 (by decide +kernel) (by decide +kernel), ini_12, ⟨by decide +kernel, by decide +kernel⟩, by decide⟩
theorem mo261 : MOK (cX12_find, 8, (some .int), yX12_find, 12) := ⟨by decide +kernel, by decide +kernel, atb_mem 1491 (by decide +kernel) (by decide +kernel), ini_12, ⟨by decide +kernel, by decide +kernel⟩, by decide⟩
theorem mo262 : MOK (cX12_away, 3, (some .int), yX12_away, 12) := ⟨by decide +kernel, by decide +kernel, atb_mem 1495 (by decide +kernel) (by decide +kernel), ini_12, ⟨by decide +kernel, by decide +kernel⟩, by decide⟩
theorem mo263 : MOK (cX12_laid, 4, (some .int), yX12_laid, 12) := ⟨by decide +kernel, by decide +kernel, atb_mem 1499 (by decide +kernel) (by decide +kernel), ini_12, ⟨by decide +kernel, by decide +kernel⟩, by decide⟩
theorem mo264 : MOK (cX12_count, 2, (some .int), yX12_count, 12) := ⟨by decide +kernel, by decide +kernel, atb_mem 1503 (by decide +kernel) (by decide +kernel), ini_12, ⟨by decide +kernel, by decide +kernel⟩, by decide⟩
theorem mo265 : MOK (cX12_loops, 6, (some .int), yX12_loops, 12) := ⟨by decide +kernel, by decide +kernel, atb_mem 1507 (by decide +kernel) (by decide +kernel), ini_12, ⟨by decide +kernel, by decide +kernel⟩, by decide⟩
theorem mo266 : MOK (cX12_parallels, 7, (some .int), yX12_parallels, 12) := ⟨by decide +kernel, by decide +kernel, atb_mem 1511 (by decide +kernel) (by decide +kernel), ini_12, ⟨by decide +kernel, by decide +kernel⟩, by decide⟩
theorem mtok_0 : ∀ M ∈ mt_0, MOK M := List.forall_mem_cons.mpr ⟨mo0, List.forall_mem_cons.mpr ⟨mo1, List.forall_mem_cons.mpr ⟨mo2, List.forall_mem_cons.mpr ⟨mo3, List.forall_mem_cons.mpr ⟨mo4, List.forall_mem_cons.mpr ⟨mo5, List.forall_mem_cons.mpr ⟨mo6, List.forall_mem_cons.mpr ⟨mo7, List.forall_mem_cons.mpr ⟨mo8, List.forall_mem_cons.mpr ⟨mo9, List.forall_mem_cons.mpr ⟨mo10, List.forall_mem_cons.mpr ⟨mo11, List.forall_mem_cons.mpr ⟨mo12, List.forall_mem_cons.mpr ⟨mo13, List.forall_mem_cons.mpr ⟨mo14, List.forall_mem_cons.mpr ⟨mo15, fun _ h => absurd h List.not_mem_nil⟩⟩⟩⟩⟩⟩⟩⟩⟩⟩⟩⟩⟩⟩⟩⟩
theorem mtok_1 : ∀ M ∈ mt_1, MOK M := List.forall_mem_cons.mpr ⟨mo16, List.forall_mem_cons.mpr ⟨mo17, List.forall_mem_cons.mpr ⟨mo18, List.forall_mem_cons.mpr ⟨mo19, List.forall_mem_cons.mpr ⟨mo20, List.forall_mem_cons.mpr ⟨mo21, List.forall_mem_cons.mpr ⟨mo22, List.forall_mem_cons.mpr ⟨mo23, List.forall_mem_cons.mpr ⟨mo24, List.forall_mem_cons.mpr ⟨mo25, List.forall_mem_cons.mpr ⟨mo26, List.forall_mem_cons.mpr ⟨mo27, List.forall_mem_cons.mpr ⟨mo28, List.forall_mem_cons.mpr ⟨mo29, List.forall_mem_cons.mpr ⟨mo30, List.forall_mem_cons.mpr ⟨mo31, fun _ h => absurd h List.not_mem_nil⟩⟩⟩⟩⟩⟩⟩⟩⟩⟩⟩⟩⟩⟩⟩⟩
theorem mtok_2 : ∀ M ∈ mt_2, MOK M := List.forall_mem_cons.mpr ⟨mo32, List.forall_mem_cons.mpr ⟨mo33, List.forall_mem_cons.mpr ⟨mo34, List.forall_mem_cons.mpr ⟨mo35, List.forall_mem_cons.mpr ⟨mo36, List.forall_mem_cons.mpr ⟨mo37, List.forall_mem_cons.mpr ⟨mo38, List.forall_mem_cons.mpr ⟨mo39, List.forall_mem_cons.mpr ⟨mo40, List.forall_mem_cons.mpr ⟨mo41, List.forall_mem_cons.mpr ⟨mo42, List.forall_mem_cons.mpr ⟨mo43, List.forall_mem_cons.mpr ⟨mo44, List.forall_mem_cons.mpr ⟨mo45, List.forall_mem_cons.mpr ⟨mo46, List.forall_mem_cons.mpr ⟨mo47, fun _ h => absurd h List.not_mem_nil⟩⟩⟩⟩⟩⟩⟩⟩⟩⟩⟩⟩⟩⟩⟩⟩
theorem mtok_3 : ∀ M ∈ mt_3, MOK M := List.forall_mem_cons.mpr ⟨mo48, List.forall_mem_cons.mpr ⟨mo49, List.forall_mem_cons.mpr ⟨mo50, List.forall_mem_cons.mpr ⟨mo51, List.forall_mem_cons.mpr ⟨mo52, List.forall_mem_cons.mpr ⟨mo53, List.forall_mem_cons.mpr ⟨mo54, List.forall_mem_cons.mpr ⟨mo55, List.forall_mem_cons.mpr ⟨mo56, List.forall_mem_cons.mpr ⟨mo57, List.forall_mem_cons.mpr ⟨mo58, List.forall_mem_cons.mpr ⟨mo59, List.forall_mem_cons.mpr ⟨mo60, List.forall_mem_cons.mpr ⟨mo61, List.forall_mem_cons.mpr ⟨mo62, List.forall_mem_cons.mpr ⟨mo63, fun _ h => absurd h List.not_mem_nil⟩⟩⟩⟩⟩⟩⟩⟩⟩⟩⟩⟩⟩⟩⟩⟩
theorem mtok_4 : ∀ M ∈ mt_4, MOK M := List.forall_mem_cons.mpr ⟨mo64, List.forall_mem_cons.mpr ⟨mo65, List.forall_mem_cons.mpr ⟨mo66, List.forall_mem_cons.mpr ⟨mo67, List.forall_mem_cons.mpr ⟨mo68, List.forall_mem_cons.mpr ⟨mo69, List.forall_mem_cons.mpr ⟨mo70, List.forall_mem_cons.mpr ⟨mo71, List.forall_mem_cons.mpr ⟨mo72, List.forall_mem_cons.mpr ⟨mo73, List.forall_mem_cons.mpr ⟨mo74, List.forall_mem_cons.mpr ⟨mo75, List.forall_mem_cons.mpr ⟨mo76, List.forall_mem_cons.mpr ⟨mo77, List.forall_mem_cons.mpr ⟨mo78, List.forall_mem_cons.mpr ⟨mo79, fun _ h => absurd h List.not_mem_nil⟩⟩⟩⟩⟩⟩⟩⟩⟩⟩⟩⟩⟩⟩⟩⟩
theorem mtok_5 : ∀ M ∈ mt_5, MOK M := List.forall_mem_cons.mpr ⟨mo80, List.forall_mem_cons.mpr ⟨mo81, List.forall_mem_cons.mpr ⟨mo82, List.forall_mem_cons.mpr ⟨mo83, List.forall_mem_cons.mpr ⟨mo84, List.forall_mem_cons.mpr ⟨mo85, List.forall_mem_cons.mpr ⟨mo86, List.forall_mem_cons.mpr ⟨mo87, List.forall_mem_cons.mpr ⟨mo88, List.forall_mem_cons.mpr ⟨mo89, List.forall_mem_cons.mpr ⟨mo90, List.forall_mem_cons.mpr ⟨mo91, List.forall_mem_cons.mpr ⟨mo92, List.forall_mem_cons.mpr ⟨mo93, List.forall_mem_cons.mpr ⟨mo94, List.forall_mem_cons.mpr ⟨mo95, fun _ h => absurd h List.not_mem_nil⟩⟩⟩⟩⟩⟩⟩⟩⟩⟩⟩⟩⟩⟩⟩⟩
theorem mtok_6 : ∀ M ∈ mt_6, MOK M := List.forall_mem_cons.mpr ⟨mo96, List.forall_mem_cons.mpr ⟨mo97, List.forall_mem_cons.mpr ⟨mo98, List.forall_mem_cons.mpr ⟨mo99, List.forall_mem_cons.mpr ⟨mo100, List.forall_mem_cons.mpr ⟨mo101, List.forall_mem_cons.mpr ⟨mo102, List.forall_mem_cons.mpr ⟨mo103, List.forall_mem_cons.mpr ⟨mo104, List.forall_mem_cons.mpr ⟨mo105, List.forall_mem_cons.mpr ⟨mo106, List.forall_mem_cons.mpr ⟨mo107, List.forall_mem_cons.mpr ⟨mo108, List.forall_mem_cons.mpr ⟨mo109, List.forall_mem_cons.mpr ⟨mo110, List.forall_mem_cons.mpr ⟨mo111, fun _ h => absurd h List.not_mem_nil⟩⟩⟩⟩⟩⟩⟩⟩⟩⟩⟩⟩⟩⟩⟩⟩
theorem mtok_7 : ∀ M ∈ mt_7, MOK M := List.forall_mem_cons.mpr ⟨mo112, List.forall_mem_cons.mpr ⟨mo113, List.forall_mem_cons.mpr ⟨mo114, List.forall_mem_cons.mpr ⟨mo115, List.forall_mem_cons.mpr ⟨mo116, List.forall_mem_cons.mpr ⟨mo117, List.forall_mem_cons.mpr ⟨mo118, List.forall_mem_cons.mpr ⟨mo119, List.forall_mem_cons.mpr ⟨mo120, List.forall_mem_cons.mpr ⟨mo121, List.forall_mem_cons.mpr ⟨mo122, List.forall_mem_cons.mpr ⟨mo123, List.forall_mem_cons.mpr ⟨mo124, List.forall_mem_cons.mpr ⟨mo125, List.forall_mem_cons.mpr ⟨mo126, List.forall_mem_cons.mpr ⟨mo127, fun _ h => absurd h List.not_mem_nil⟩⟩⟩⟩⟩⟩⟩⟩⟩⟩⟩⟩⟩⟩⟩⟩
theorem mtok_8 : ∀ M ∈ mt_8, MOK M := List.forall_mem_cons.mpr ⟨mo128, List.forall_mem_cons.mpr ⟨mo129, List.forall_mem_cons.mpr ⟨mo130, List.forall_mem_cons.mpr ⟨mo131, List.forall_mem_cons.mpr ⟨mo132, List.forall_mem_cons.mpr ⟨mo133, List.forall_mem_cons.mpr ⟨mo134, List.forall_mem_cons.mpr ⟨mo135, List.forall_mem_cons.mpr ⟨mo136, List.forall_mem_cons.mpr ⟨mo137, List.forall_mem_cons.mpr ⟨mo138, List.forall_mem_cons.mpr ⟨mo139, List.forall_mem_cons.mpr ⟨mo140, List.forall_mem_cons.mpr ⟨mo141, List.forall_mem_cons.mpr ⟨mo142, List.forall_mem_cons.mpr ⟨mo143, fun _ h => absurd h List.not_mem_nil⟩⟩⟩⟩⟩⟩⟩⟩⟩⟩⟩⟩⟩⟩⟩⟩
theorem mtok_9 : ∀ M ∈ mt_9, MOK M := List.forall_mem_cons.mpr ⟨mo144, List.forall_mem_cons.mpr ⟨mo145, List.forall_mem_cons.mpr ⟨mo146, List.forall_mem_cons.mpr ⟨mo147, List.forall_mem_cons.mpr ⟨mo148, List.forall_mem_cons.mpr ⟨mo149, List.forall_mem_cons.mpr ⟨mo150, List.forall_mem_cons.mpr ⟨mo151, List.forall_mem_cons.mpr ⟨mo152, List.forall_mem_cons.mpr ⟨mo153, List.forall_mem_cons.mpr ⟨mo154, List.forall_mem_cons.mpr ⟨mo155, List.forall_mem_cons.mpr ⟨mo156, List.forall_mem_cons.mpr ⟨mo157, List.forall_mem_cons.mpr ⟨mo158, List.forall_mem_cons.mpr ⟨mo159, fun _ h => absurd h List.not_mem_nil⟩⟩⟩⟩⟩⟩⟩⟩⟩⟩⟩⟩⟩⟩⟩⟩
theorem mtok_10 : ∀ M ∈ mt_10, MOK M := List.forall_mem_cons.mpr ⟨mo160, List.forall_mem_cons.mpr ⟨mo161, List.forall_mem_cons.mpr ⟨mo162, List.forall_mem_cons.mpr ⟨mo163, List.forall_mem_cons.mpr ⟨mo164, List.forall_mem_cons.mpr ⟨mo165, List.forall_mem_cons.mpr ⟨mo166, List.forall_mem_cons.mpr ⟨mo167, List.forall_mem_cons.mpr ⟨mo168, List.forall_mem_cons.mpr ⟨mo169, List.forall_mem_cons.mpr ⟨mo170, List.forall_mem_cons.mpr ⟨mo171, List.forall_mem_cons.mpr ⟨mo172, List.forall_mem_cons.mpr ⟨mo173, List.forall_mem_cons.mpr ⟨mo174, List.forall_mem_cons.mpr ⟨mo175, fun _ h => absurd h List.not_mem_nil⟩⟩⟩⟩⟩⟩⟩⟩⟩⟩⟩⟩⟩⟩⟩⟩
theorem mtok_11 : ∀ M ∈ mt_11, MOK M := List.forall_mem_cons.mpr ⟨mo176, List.forall_mem_cons.mpr ⟨mo177, List.forall_mem_cons.mpr ⟨mo178, List.forall_mem_cons.mpr ⟨mo179, List.forall_mem_cons.mpr ⟨mo180, List.forall_mem_cons.mpr ⟨mo181, List.forall_mem_cons.mpr ⟨mo182, List.forall_mem_cons.mpr ⟨mo183, List.forall_mem_cons.mpr ⟨mo184, List.forall_mem_cons.mpr ⟨mo185, List.forall_mem_cons.mpr ⟨mo186, List.forall_mem_cons.mpr ⟨mo187, List.forall_mem_cons.mpr ⟨mo188, List.forall_mem_cons.mpr ⟨mo189, List.forall_mem_cons.mpr ⟨mo190, List.forall_mem_cons.mpr ⟨mo191, fun _ h => absurd h List.not_mem_nil⟩⟩⟩⟩⟩⟩⟩⟩⟩⟩⟩⟩⟩⟩⟩⟩
theorem mtok_12 : ∀ M ∈ mt_12, MOK M := List.forall_mem_cons.mpr ⟨mo192, List.forall_mem_cons.mpr ⟨mo193, List.forall_mem_cons.mpr ⟨mo194, List.forall_mem_cons.mpr ⟨mo195, List.forall_mem_cons.mpr ⟨mo196, List.forall_mem_cons.mpr ⟨mo197, List.forall_mem_cons.mpr ⟨mo198, List.forall_mem_cons.mpr ⟨mo199, List.forall_mem_cons.mpr ⟨mo200, List.forall_mem_cons.mpr ⟨mo201, List.forall_mem_cons.mpr ⟨mo202, List.forall_mem_cons.mpr ⟨mo203, List.forall_mem_cons.mpr ⟨mo204, List.forall_mem_cons.mpr ⟨mo205, List.forall_mem_cons.mpr ⟨mo206, List.forall_mem_cons.mpr ⟨mo207, fun _ h => absurd h List.not_mem_nil⟩⟩⟩⟩⟩⟩⟩⟩⟩⟩⟩⟩⟩⟩⟩⟩
theorem mtok_13 : ∀ M ∈ mt_13, MOK M := List.forall_mem_cons.mpr ⟨mo208, List.forall_mem_cons.mpr ⟨mo209, List.forall_mem_cons.mpr ⟨mo210, List.forall_mem_cons.mpr ⟨mo211, List.forall_mem_cons.mpr ⟨mo212, List.forall_mem_cons.mpr ⟨mo213, List.forall_mem_cons.mpr ⟨mo214, List.forall_mem_cons.mpr ⟨mo215, List.forall_mem_cons.mpr ⟨mo216, List.forall_mem_cons.mpr ⟨mo217, List.forall_mem_cons.mpr ⟨mo218, List.forall_mem_cons.mpr ⟨mo219, List.forall_mem_cons.mpr ⟨mo220, List.forall_mem_cons.mpr ⟨mo221, List.forall_mem_cons.mpr ⟨mo222, List.forall_mem_cons.mpr ⟨mo223, fun _ h => absurd h List.not_mem_nil⟩⟩⟩⟩⟩⟩⟩⟩⟩⟩⟩⟩⟩⟩⟩⟩
theorem mtok_14 : ∀ M ∈ mt_14, MOK M := List.forall_mem_cons.mpr ⟨mo224, List.forall_mem_cons.mpr ⟨mo225, List.forall_mem_cons.mpr ⟨mo226, List.forall_mem_cons.mpr ⟨mo227, List.forall_mem_cons.mpr ⟨mo228, List.forall_mem_cons.mpr ⟨mo229, List.forall_mem_cons.mpr ⟨mo230, List.forall_mem_cons.mpr ⟨mo231, List.forall_mem_cons.mpr ⟨mo232, List.forall_mem_cons.mpr ⟨mo233, List.forall_mem_cons.mpr ⟨mo234, List.forall_mem_cons.mpr ⟨mo235, List.forall_mem_cons.mpr ⟨mo236, List.forall_mem_cons.mpr ⟨mo237, List.forall_mem_cons.mpr ⟨mo238, List.forall_mem_cons.mpr ⟨mo239, fun _ h => absurd h List.not_mem_nil⟩⟩⟩⟩⟩⟩⟩⟩⟩⟩⟩⟩⟩⟩⟩⟩
theorem mtok_15 : ∀ M ∈ mt_15, MOK M := List.forall_mem_cons.mpr ⟨mo240, List.forall_mem_cons.mpr ⟨mo241, List.forall_mem_cons.mpr ⟨mo242, List.forall_mem_cons.mpr ⟨mo243, List.forall_mem_cons.mpr ⟨mo244, List.forall_mem_cons.mpr ⟨mo245, List.forall_mem_cons.mpr ⟨mo246, List.forall_mem_cons.mpr ⟨mo247, List.forall_mem_cons.mpr ⟨mo248, List.forall_mem_cons.mpr ⟨mo249, List.forall_mem_cons.mpr ⟨mo250, List.forall_mem_cons.mpr ⟨mo251, List.forall_mem_cons.mpr ⟨mo252, List.forall_mem_cons.mpr ⟨mo253, List.forall_mem_cons.mpr ⟨mo254, List.forall_mem_cons.mpr ⟨mo255, fun _ h => absurd h List.not_mem_nil⟩⟩⟩⟩⟩⟩⟩⟩⟩⟩⟩⟩⟩⟩⟩⟩
theorem mtok_16 : ∀ M ∈ mt_16, MOK M := List.forall_mem_cons.mpr ⟨mo256, List.forall_mem_cons.mpr ⟨mo257, List.forall_mem_cons.mpr ⟨mo258, List.forall_mem_cons.mpr ⟨mo259, List.forall_mem_cons.mpr ⟨mo260, List.forall_mem_cons.mpr ⟨mo261, List.forall_mem_cons.mpr ⟨mo262, List.forall_mem_cons.mpr ⟨mo263, List.forall_mem_cons.mpr ⟨mo264, List.forall_mem_cons.mpr ⟨mo265, List.forall_mem_cons.mpr ⟨mo266, fun _ h => absurd h List.not_mem_nil⟩⟩⟩⟩⟩⟩⟩⟩⟩⟩⟩
theorem mt_ok {j : Nat} {M : MI} (h : mt j = some M) : MOK M := by
  have h1 := List.mem_of_getElem? h
  unfold mtC at h1
  split at h1
  · exact mtok_0 _ h1
  · exact mtok_1 _ h1
  · exact mtok_2 _ h1
  · exact mtok_3 _ h1
  · exact mtok_4 _ h1
  · exact mtok_5 _ h1
  · exact mtok_6 _ h1
  · exact mtok_7 _ h1
  · exact mtok_8 _ h1
  · exact mtok_9 _ h1
  · exact mtok_10 _ h1
  · exact mtok_11 _ h1
  · exact mtok_12 _ h1
  · exact mtok_13 _ h1
  · exact mtok_14 _ h1
  · exact mtok_15 _ h1
  · exact mtok_16 _ h1
  · exact absurd h1 List.not_mem_nil
