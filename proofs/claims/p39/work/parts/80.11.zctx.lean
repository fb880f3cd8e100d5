/-! the methods by number; what their instructions name, held against the tables of the Statement -/
def zOwn : List String := [RJ15, RJ3, RJ6, RJ7, RJ8, RJx4a65c, RJxa1e45, RJxc12de, RL, RX0, RX1, RX2, RX3, RX4, RX5]
def zYs : List MethodName := [yX0_init, yX0_hasDay, yX1_init, yX1_takeOffAir, yX1_putOnAir, yX1_cutAt, yX1_isOnAir, yX1_secondariesAt, yX2_init, yX2_takePieces, yX2_isIn, yX2_numberOf, yX2_lengthOf, yX2_levelOf, yX2_deviationOf, yX2_chooseBySums, yX2_addUp, yX2_addPieceToSums, yX2_collectChoices, yX2_keepLonger, yX2_takeLonger, yX2_fewestFor, yX2_secondsIn, yX2_fewestByTrying, yX3_init, yX3_showsFrom, yX3_showsUntil, yX3_uncutStart, yX4_init, yX4_clear, yX4_add, yX4_cutAt, yX4_takeFrom, yX4_has, yX4_clipIn, yX4_startIn, yX4_endIn, yX4_lengthIn, yX4_clipFromSpans, yX4_clipFromSeconds, yX4_secondsApartFrom, yX5_init, yX5_addProgramme, yX5_addPiece, yX5_plays, yX5_addPlays, yX5_insert, yX5_remove, yX5_move, yX5_setOverrun, yX5_attach, yX5_events, yX5_programme, yX5_fate, yX5_startOf, yX5_endOf, yX5_spans, yX5_spanClip, yX5_spanStart, yX5_spanLength, yX5_airAt, yX5_airBySeconds, yX5_slate, yX5_showing, yX5_secondaryStart, yX5_meanLevel, yX5_meanLevelBits, yX5_fill, yX5_fillByTrying, yX5_fillAt, yX5_deviation, yX5_air, yX5_today, yX5_entries, yX5_entryClip, yX5_entryStart, yX5_apart, yX5_aired, yX5_checkClipValues, yX5_checkRoomForClip, yX5_checkClipNumber, yX5_checkPosition, yX5_checkSpan, yX5_checkEntry, yX5_checkSecond, yX5_checkGap, yX5_programmeNumbered, yX5_eventAt, yX5_eventOnAir, yX5_choiceFor, yX5_numberOfPieces, yX5_layOut, yX5_clearAir, yX5_isBarred, yX5_layEvent, yX5_layGap, yX5_levelAhead, yX5_cutAt, yX5_countSecondsAired, yX5_endEvents, yX5_meanOfSpans, yX5_bitsOf, ⟨"", "", ""⟩, ⟨"", "", ""⟩, ⟨"", "", ""⟩, ⟨"", "", ""⟩, ⟨"", "", ""⟩, ⟨"", "", ""⟩, ⟨"", "", ""⟩, ⟨"", "", ""⟩, ⟨"", "", ""⟩, ⟨"", "", ""⟩, ⟨"", "", ""⟩, ⟨"", "", ""⟩, ⟨"", "", ""⟩, ⟨"", "", ""⟩, ⟨"", "", ""⟩, ⟨"", "", ""⟩, ⟨"", "", ""⟩, ⟨"", "", ""⟩, ⟨"", "", ""⟩, ⟨"", "", ""⟩, ⟨"", "", ""⟩, ⟨"", "", ""⟩, ⟨"", "", ""⟩, ⟨"", "", ""⟩, ⟨"", "", ""⟩, ⟨"", "", ""⟩, ⟨"", "", ""⟩, ⟨"", "", ""⟩, ⟨"", "", ""⟩, ⟨"", "", ""⟩, ⟨"", "", ""⟩, ⟨"", "", ""⟩, ⟨"", "", ""⟩, ⟨"", "", ""⟩, ⟨"", "", ""⟩, ⟨"", "", ""⟩, ⟨"", "", ""⟩, ⟨"", "", ""⟩, ⟨"", "", ""⟩, ⟨"", "", ""⟩, ⟨"", "", ""⟩, ⟨"", "", ""⟩, ⟨"", "", ""⟩, ⟨"", "", ""⟩, ⟨"", "", ""⟩, ⟨"", "", ""⟩, ⟨"", "", ""⟩, ⟨"", "", ""⟩, ⟨"", "", ""⟩, ⟨"", "", ""⟩, ⟨"", "", ""⟩, ⟨"", "", ""⟩, ⟨"", "", ""⟩, ⟨"", "", ""⟩, ⟨"", "", ""⟩, ⟨"", "", ""⟩, ⟨"", "", ""⟩, ⟨"", "", ""⟩, ⟨"", "", ""⟩, ⟨"", "", ""⟩, ⟨"", "", ""⟩, ⟨"", "", ""⟩, yJx4a65c_init_da8c8, yJx4a65c_add_9ea2d, yJx4a65c_add_72be8, yJx4a65c_add_7a177, yJx4a65c_rangeCheckForAdd_d00df, yJx4a65c_grow_92f84, yJx4a65c_grow_d5877, yJx4a65c_get_915e3, yJx4a65c_elementData_915e3, yJx4a65c_remove_915e3, yJx4a65c_fastRemove_b59b0, yJx4a65c_size_8abf5, yJ15_checkIndex_7cf53, yJ3_checkIndex_8e157, yJ8_newLength_cabcc, yJ7_copyOf_1904c, yJ7_copyOf_6403c, yJ7_fill_031fb, yJ6_bitCount_0f7a4, ⟨"", "", ""⟩, ⟨"", "", ""⟩, ⟨"", "", ""⟩, yJxc12de_init_da8c8, yJxa1e45_init_da8c8, ⟨"", "", ""⟩, ⟨"", "", ""⟩, ⟨"", "", ""⟩, ⟨"", "", ""⟩, ⟨"", "", ""⟩, ⟨"", "", ""⟩, ⟨"", "", ""⟩, ⟨"", "", ""⟩, ⟨"", "", ""⟩, ⟨"", "", ""⟩, ⟨"", "", ""⟩, ⟨"", "", ""⟩, ⟨"", "", ""⟩, ⟨"", "", ""⟩, ⟨"", "", ""⟩, ⟨"", "", ""⟩, ⟨"", "", ""⟩, ⟨"", "", ""⟩, ⟨"", "", ""⟩, ⟨"", "", ""⟩, ⟨"", "", ""⟩, ⟨"", "", ""⟩, ⟨"", "", ""⟩, ⟨"", "", ""⟩, ⟨"", "", ""⟩, ⟨"", "", ""⟩, ⟨"", "", ""⟩, ⟨"", "", ""⟩, ⟨"", "", ""⟩, ⟨"", "", ""⟩, ⟨"", "", ""⟩, ⟨"", "", ""⟩, yL_cell, yL_some, yL_clip, yL_plays, yL_insert, yL_list, yL_over, yL_attach, yL_fate, yL_time, yL_span, yL_at, yL_fill, yL_off, yL_mean, yL_bits, yL_air, yL_apart, yL_aired, yL_clips, yL_sum, yL_isSound, yL_isFilled, yL_law]
def zY (k : Nat) : MethodName := zYs.getD k ⟨"", "", ""⟩
def zBs : List ByteArray := [cX0_init, cX0_hasDay, cX1_init, cX1_takeOffAir, cX1_putOnAir, cX1_cutAt, cX1_isOnAir, cX1_secondariesAt, cX2_init, cX2_takePieces, cX2_isIn, cX2_numberOf, cX2_lengthOf, cX2_levelOf, cX2_deviationOf, cX2_chooseBySums, cX2_addUp, cX2_addPieceToSums, cX2_collectChoices, cX2_keepLonger, cX2_takeLonger, cX2_fewestFor, cX2_secondsIn, cX2_fewestByTrying, cX3_init, cX3_showsFrom, cX3_showsUntil, cX3_uncutStart, cX4_init, cX4_clear, cX4_add, cX4_cutAt, cX4_takeFrom, cX4_has, cX4_clipIn, cX4_startIn, cX4_endIn, cX4_lengthIn, cX4_clipFromSpans, cX4_clipFromSeconds, cX4_secondsApartFrom, cX5_init, cX5_addProgramme, cX5_addPiece, cX5_plays, cX5_addPlays, cX5_insert, cX5_remove, cX5_move, cX5_setOverrun, cX5_attach, cX5_events, cX5_programme, cX5_fate, cX5_startOf, cX5_endOf, cX5_spans, cX5_spanClip, cX5_spanStart, cX5_spanLength, cX5_airAt, cX5_airBySeconds, cX5_slate, cX5_showing, cX5_secondaryStart, cX5_meanLevel, cX5_meanLevelBits, cX5_fill, cX5_fillByTrying, cX5_fillAt, cX5_deviation, cX5_air, cX5_today, cX5_entries, cX5_entryClip, cX5_entryStart, cX5_apart, cX5_aired, cX5_checkClipValues, cX5_checkRoomForClip, cX5_checkClipNumber, cX5_checkPosition, cX5_checkSpan, cX5_checkEntry, cX5_checkSecond, cX5_checkGap, cX5_programmeNumbered, cX5_eventAt, cX5_eventOnAir, cX5_choiceFor, cX5_numberOfPieces, cX5_layOut, cX5_clearAir, cX5_isBarred, cX5_layEvent, cX5_layGap, cX5_levelAhead, cX5_cutAt, cX5_countSecondsAired, cX5_endEvents, cX5_meanOfSpans, cX5_bitsOf, ⟨#[]⟩, ⟨#[]⟩, ⟨#[]⟩, ⟨#[]⟩, ⟨#[]⟩, ⟨#[]⟩, ⟨#[]⟩, ⟨#[]⟩, ⟨#[]⟩, ⟨#[]⟩, ⟨#[]⟩, ⟨#[]⟩, ⟨#[]⟩, ⟨#[]⟩, ⟨#[]⟩, ⟨#[]⟩, ⟨#[]⟩, ⟨#[]⟩, ⟨#[]⟩, ⟨#[]⟩, ⟨#[]⟩, ⟨#[]⟩, ⟨#[]⟩, ⟨#[]⟩, ⟨#[]⟩, ⟨#[]⟩, ⟨#[]⟩, ⟨#[]⟩, ⟨#[]⟩, ⟨#[]⟩, ⟨#[]⟩, ⟨#[]⟩, ⟨#[]⟩, ⟨#[]⟩, ⟨#[]⟩, ⟨#[]⟩, ⟨#[]⟩, ⟨#[]⟩, ⟨#[]⟩, ⟨#[]⟩, ⟨#[]⟩, ⟨#[]⟩, ⟨#[]⟩, ⟨#[]⟩, ⟨#[]⟩, ⟨#[]⟩, ⟨#[]⟩, ⟨#[]⟩, ⟨#[]⟩, ⟨#[]⟩, ⟨#[]⟩, ⟨#[]⟩, ⟨#[]⟩, ⟨#[]⟩, ⟨#[]⟩, ⟨#[]⟩, ⟨#[]⟩, ⟨#[]⟩, ⟨#[]⟩, ⟨#[]⟩, ⟨#[]⟩, ⟨#[]⟩, cJx4a65c_init_da8c8, cJx4a65c_add_9ea2d, cJx4a65c_add_72be8, cJx4a65c_add_7a177, cJx4a65c_rangeCheckForAdd_d00df, cJx4a65c_grow_92f84, cJx4a65c_grow_d5877, cJx4a65c_get_915e3, cJx4a65c_elementData_915e3, cJx4a65c_remove_915e3, cJx4a65c_fastRemove_b59b0, cJx4a65c_size_8abf5, cJ15_checkIndex_7cf53, cJ3_checkIndex_8e157, cJ8_newLength_cabcc, cJ7_copyOf_1904c, cJ7_copyOf_6403c, cJ7_fill_031fb, cJ6_bitCount_0f7a4, ⟨#[]⟩, ⟨#[]⟩, ⟨#[]⟩, cJxc12de_init_da8c8, cJxa1e45_init_da8c8, ⟨#[]⟩, ⟨#[]⟩, ⟨#[]⟩, ⟨#[]⟩, ⟨#[]⟩, ⟨#[]⟩, ⟨#[]⟩, ⟨#[]⟩, ⟨#[]⟩, ⟨#[]⟩, ⟨#[]⟩, ⟨#[]⟩, ⟨#[]⟩, ⟨#[]⟩, ⟨#[]⟩, ⟨#[]⟩, ⟨#[]⟩, ⟨#[]⟩, ⟨#[]⟩, ⟨#[]⟩, ⟨#[]⟩, ⟨#[]⟩, ⟨#[]⟩, ⟨#[]⟩, ⟨#[]⟩, ⟨#[]⟩, ⟨#[]⟩, ⟨#[]⟩, ⟨#[]⟩, ⟨#[]⟩, ⟨#[]⟩, ⟨#[]⟩, cL_cell, cL_some, cL_clip, cL_plays, cL_insert, cL_list, cL_over, cL_attach, cL_fate, cL_time, cL_span, cL_at, cL_fill, cL_off, cL_mean, cL_bits, cL_air, cL_apart, cL_aired, cL_clips, cL_sum, cL_isSound, cL_isFilled, cL_law]
def zB (k : Nat) : ByteArray := zBs.getD k ⟨#[]⟩
def zMLs : List Nat := [8, 2, 4, 1, 3, 2, 1, 5, 1, 7, 3, 2, 2, 2, 6, 7, 2, 5, 7, 3, 2, 3, 4, 6, 4, 3, 3, 3, 1, 1, 4, 2, 3, 2, 2, 2, 2, 2, 3, 4, 7, 1, 7, 6, 2, 4, 6, 2, 4, 5, 6, 1, 2, 3, 2, 2, 1, 2, 2, 2, 2, 2, 3, 4, 6, 1, 1, 3, 4, 7, 3, 1, 1, 1, 2, 2, 1, 2, 4, 1, 2, 2, 2, 2, 1, 2, 3, 2, 3, 4, 3, 4, 2, 6, 7, 8, 4, 3, 3, 3, 6, 5, 0, 0, 0, 0, 0, 0, 0, 0, 0, 0, 0, 0, 0, 0, 0, 0, 0, 0, 0, 0, 0, 0, 0, 0, 0, 0, 0, 0, 0, 0, 0, 0, 0, 0, 0, 0, 0, 0, 0, 0, 0, 0, 0, 0, 0, 0, 0, 0, 0, 0, 0, 0, 0, 0, 0, 0, 0, 0, 0, 0, 0, 0, 1, 2, 4, 5, 2, 4, 1, 2, 2, 4, 4, 1, 2, 3, 4, 2, 4, 4, 1, 0, 0, 0, 1, 1, 0, 0, 0, 0, 0, 0, 0, 0, 0, 0, 0, 0, 0, 0, 0, 0, 0, 0, 0, 0, 0, 0, 0, 0, 0, 0, 0, 0, 0, 0, 0, 0, 2, 3, 7, 4, 6, 5, 4, 6, 3, 4, 4, 4, 5, 4, 2, 2, 2, 2, 3, 2, 4, 11, 7, 16]
def zML (k : Nat) : Nat := zMLs.getD k 0
def zRTs : List (Option FieldType) := [none, (some .boolean), none, none, none, none, (some .boolean), (some .int), none, none, (some .boolean), (some .int), (some .int), (some .int), (some .float), (some .int), none, none, none, none, none, (some .int), (some .int), (some .int), none, (some .int), (some .int), (some .int), none, none, none, none, none, (some .boolean), (some .int), (some .int), (some .int), (some .int), (some .int), (some .int), (some .int), none, (some .int), (some .int), (some .int), (some .int), (some .int), (some .int), (some .int), (some .int), (some .int), (some .int), (some .int), (some .char), (some .int), (some .int), (some .int), (some .int), (some .int), (some .int), (some .int), (some .int), (some .int), (some .int), (some .int), (some .float), (some .int), (some .int), (some .int), (some .int), (some .float), (some .int), (some .int), (some .int), (some .int), (some .int), (some .int), (some .long), none, none, none, none, none, none, none, none, (some (.object "PlayoutChain$Clip")), (some (.object "PlayoutChain$Event")), (some (.object "PlayoutChain$Event")), (some .int), (some .int), none, none, (some .boolean), (some .int), none, (some .int), none, none, none, (some .float), (some .int), none, none, none, none, none, none, none, none, none, none, none, none, none, none, none, none, none, none, none, none, none, none, none, none, none, none, none, none, none, none, none, none, none, none, none, none, none, none, none, none, none, none, none, none, none, none, none, none, none, none, none, none, none, none, none, none, none, none, none, none, none, none, none, (some .boolean), none, none, none, (some (.array (.object "java/lang/Object"))), (some (.array (.object "java/lang/Object"))), (some (.object "java/lang/Object")), (some (.object "java/lang/Object")), (some (.object "java/lang/Object")), none, (some .int), (some .int), (some .int), (some .int), (some (.array (.object "java/lang/Object"))), (some (.array (.object "java/lang/Object"))), none, (some .int), none, none, none, none, none, none, none, none, none, none, none, none, none, none, none, none, none, none, none, none, none, none, none, none, none, none, none, none, none, none, none, none, none, none, none, none, none, (some .int), (some .int), (some .int), (some .int), (some .int), (some .int), (some .int), (some .int), (some .char), (some .int), (some .int), (some .int), (some .int), (some .float), (some .float), (some .int), (some .int), (some .int), (some .long), (some .int), (some .long), (some .boolean), (some .boolean), (some .boolean)]
def zRT (k : Nat) : Option FieldType := zRTs.getD k none
def zOIs : List Nat := [9, 9, 10, 10, 10, 10, 10, 10, 11, 11, 11, 11, 11, 11, 11, 11, 11, 11, 11, 11, 11, 11, 11, 11, 12, 12, 12, 12, 13, 13, 13, 13, 13, 13, 13, 13, 13, 13, 13, 13, 13, 14, 14, 14, 14, 14, 14, 14, 14, 14, 14, 14, 14, 14, 14, 14, 14, 14, 14, 14, 14, 14, 14, 14, 14, 14, 14, 14, 14, 14, 14, 14, 14, 14, 14, 14, 14, 14, 14, 14, 14, 14, 14, 14, 14, 14, 14, 14, 14, 14, 14, 14, 14, 14, 14, 14, 14, 14, 14, 14, 14, 14, 999, 999, 999, 999, 999, 999, 999, 999, 999, 999, 999, 999, 999, 999, 999, 999, 999, 999, 999, 999, 999, 999, 999, 999, 999, 999, 999, 999, 999, 999, 999, 999, 999, 999, 999, 999, 999, 999, 999, 999, 999, 999, 999, 999, 999, 999, 999, 999, 999, 999, 999, 999, 999, 999, 999, 999, 999, 999, 999, 999, 999, 999, 5, 5, 5, 5, 5, 5, 5, 5, 5, 5, 5, 5, 0, 1, 4, 3, 3, 3, 2, 999, 999, 999, 7, 6, 999, 999, 999, 999, 999, 999, 999, 999, 999, 999, 999, 999, 999, 999, 999, 999, 999, 999, 999, 999, 999, 999, 999, 999, 999, 999, 999, 999, 999, 999, 999, 999, 8, 8, 8, 8, 8, 8, 8, 8, 8, 8, 8, 8, 8, 8, 8, 8, 8, 8, 8, 8, 8, 8, 8, 8]
/-- the number of a method's class -/
def zOI (k : Nat) : Nat := zOIs.getD k 0
def zRKs : List Nat := [0, 0, 3, 0, 0, 0, 0, 3, 0, 3, 0, 0, 0, 0, 1, 2, 1, 0, 1, 0, 0, 0, 1, 2, 0, 1, 1, 0, 0, 0, 0, 2, 2, 0, 1, 1, 1, 2, 2, 2, 2, 3, 6, 6, 4, 4, 5, 3, 5, 4, 6, 1, 4, 6, 6, 6, 6, 6, 6, 6, 6, 6, 6, 6, 6, 6, 6, 4, 3, 4, 4, 6, 0, 0, 2, 2, 6, 3, 0, 1, 1, 1, 0, 0, 0, 0, 3, 3, 4, 3, 3, 5, 3, 3, 4, 3, 3, 3, 3, 3, 3, 0, 0, 0, 0, 0, 0, 0, 0, 0, 0, 0, 0, 0, 0, 0, 0, 0, 0, 0, 0, 0, 0, 0, 0, 0, 0, 0, 0, 0, 0, 0, 0, 0, 0, 0, 0, 0, 0, 0, 0, 0, 0, 0, 0, 0, 0, 0, 0, 0, 0, 0, 0, 0, 0, 0, 0, 0, 0, 0, 0, 0, 0, 0, 2, 5, 4, 4, 0, 2, 3, 2, 0, 2, 0, 0, 1, 0, 0, 1, 0, 0, 0, 0, 0, 0, 1, 0, 0, 0, 0, 0, 0, 0, 0, 0, 0, 0, 0, 0, 0, 0, 0, 0, 0, 0, 0, 0, 0, 0, 0, 0, 0, 0, 0, 0, 0, 0, 0, 0, 0, 0, 7, 5, 6, 6, 5, 7, 7, 7, 7, 7, 5, 5, 7, 7, 7, 7, 4, 5, 8, 8, 6, 9]
/-- how deep calls go below a method -/
def zRK (k : Nat) : Nat := zRKs.getD k 0
def zHHs : List (Option (List (Nat × Nat × Nat × Nat))) := [none, none, none, none, none, none, none, none, none, none, none, none, none, none, none, none, none, none, none, none, none, none, none, none, none, none, none, none, none, none, none, none, none, none, none, none, none, none, none, none, none, none, none, none, none, none, none, none, none, none, none, none, none, none, none, none, none, none, none, none, none, none, none, none, none, none, none, none, none, none, none, none, none, none, none, none, none, none, none, none, none, none, none, none, none, none, none, none, none, none, none, none, none, none, none, none, none, none, none, none, none, none, none, none, none, none, none, none, none, none, none, none, none, none, none, none, none, none, none, none, none, none, none, none, none, none, none, none, none, none, none, none, none, none, none, none, none, none, none, none, none, none, none, none, none, none, none, none, none, none, none, none, none, none, none, none, none, none, none, none, none, none, none, none, none, none, none, none, none, none, none, none, none, none, none, none, none, none, none, none, none, none, none, none, none, none, none, none, none, none, none, none, none, none, none, none, none, none, none, none, none, none, none, none, none, none, none, none, none, none, none, none, none, none, none, none, none, none, none, none, none, none, some [(0, 28, 29, 17), (0, 28, 35, 19)], some [(0, 20, 21, 29), (0, 20, 26, 31), (0, 20, 31, 17)], some [(0, 9, 10, 29), (0, 9, 16, 31), (0, 9, 22, 17), (0, 9, 28, 19)], some [(0, 31, 32, 29)], some [(0, 6, 7, 29), (0, 6, 12, 17)], some [(0, 9, 10, 29), (0, 9, 16, 17), (0, 9, 22, 19)], some [(0, 5, 6, 29)], some [(0, 33, 34, 29), (0, 33, 39, 66)], some [(0, 56, 57, 29)], some [(0, 30, 31, 17)], some [(0, 36, 37, 17), (0, 36, 43, 66)], some [(0, 6, 7, 17), (0, 6, 11, 66)], some [(0, 4, 5, 66)], some [(0, 4, 5, 66)], some [(0, 4, 5, 19)], some [(0, 4, 5, 66)], some [(0, 5, 6, 29)], none, none, none, none, none]
def zHH (k : Nat) : Option (List (Nat × Nat × Nat × Nat)) := zHHs.getD k none
/-- the methods that there are -/
def zrl (k : Nat) : Bool := Nat.blt k 102 || (Nat.ble 164 k && (Nat.ble k 182 || (Nat.ble 186 k && (Nat.ble k 187 || Nat.ble 220 k))))
def zW : List Jvm.Cond := lw_tbl.filter goodWord
theorem zW_in {w : Jvm.Cond} (i : Nat) (h : lw_tbl[i]? = some w) (g : goodWord w = true) : w ∈ zW := List.mem_filter.mpr ⟨List.mem_of_getElem? h, g⟩
theorem zW_all {ws : List Jvm.Cond} (h : ws.all (fun w => lw_tbl.contains w && goodWord w) = true) : ∀ w ∈ ws, w ∈ zW := by
  intro w hw
  have := List.all_eq_true.mp h w hw
  simp only [Bool.and_eq_true] at this
  exact List.mem_filter.mpr ⟨List.contains_iff_mem.mp this.1, this.2⟩
theorem zW_good {w : Jvm.Cond} (h : w ∈ zW) : goodWord w = true := (List.mem_filter.mp h).2
theorem zW_GoodIn {ws : List Jvm.Cond} (h : ∀ w ∈ ws, w ∈ zW) : GoodIn zW ws := fun w hw => ⟨h w hw, good_of_word (zW_good (h w hw))⟩
/-- (class of the method, index, kind, field) -/
def zFTab : List (Nat × Nat × Nat × Nat) := [(5, 9, 7, 1), (5, 48, 7, 2), (5, 63, 7, 0), (7, 7, 7, 0), (9, 7, 0, 0), (9, 13, 0, 1), (9, 17, 0, 2), (9, 20, 0, 3), (9, 23, 0, 6), (9, 26, 0, 4), (9, 29, 0, 5), (9, 32, 0, 7), (10, 9, 1, 0), (10, 15, 1, 1), (10, 19, 1, 2), (10, 26, 1, 3), (10, 30, 1, 4), (10, 33, 1, 5), (10, 37, 1, 6), (10, 40, 1, 7), (10, 43, 1, 8), (10, 46, 1, 9), (11, 9, 2, 0), (11, 15, 2, 1), (11, 18, 2, 2), (11, 21, 2, 3), (11, 27, 2, 4), (11, 30, 2, 5), (11, 34, 2, 6), (11, 37, 2, 7), (11, 40, 2, 8), (11, 43, 2, 9), (11, 46, 2, 10), (11, 61, 0, 1), (11, 68, 0, 0), (11, 71, 0, 2), (11, 74, 0, 3), (12, 9, 3, 0), (12, 15, 3, 1), (12, 19, 3, 2), (13, 9, 4, 0), (13, 15, 4, 1), (13, 18, 4, 2), (13, 21, 4, 3), (14, 12, 5, 0), (14, 16, 5, 1), (14, 22, 5, 2), (14, 26, 5, 3), (14, 32, 5, 4), (14, 36, 5, 5), (14, 40, 5, 6), (14, 44, 5, 7), (14, 90, 0, 6), (14, 134, 1, 4), (14, 143, 1, 3), (14, 153, 1, 0), (14, 157, 0, 0), (14, 163, 1, 5), (14, 170, 1, 8), (14, 173, 1, 9), (14, 176, 1, 6), (14, 182, 1, 7), (14, 185, 4, 3), (14, 254, 2, 3), (14, 292, 0, 7), (14, 314, 0, 1), (14, 358, 0, 2), (14, 361, 1, 1), (14, 365, 1, 2), (14, 379, 0, 3)]
def zFq (ci : Nat) : vw_C := zcl.getD ci ("", TX0, 0)
def zFOK (own : String) (idx ci k : Nat) : Prop := zcl[ci]? = some (zFq ci) ∧ k < (zFq ci).2.2 ∧ ∃ ref : String, (Cond.fieldLink own idx ref ((zFq ci).2.1 k).2.1 ((zFq ci).2.1 k).2.2.1 : Jvm.Cond) ∈ zW ∧ (ref = ((zFq ci).2.1 k).1 ∨ (Cond.sameField ref ((zFq ci).2.1 k).1 ((zFq ci).2.1 k).2.1 ((zFq ci).2.1 k).2.2.1 : Jvm.Cond) ∈ zW)
set_option maxRecDepth 20000 in
theorem zFTab_ok : ∀ x ∈ zFTab, zFOK (zOwn.getD x.1 "") x.2.1 x.2.2.1 x.2.2.2 := by
  unfold zFTab
  refine List.forall_mem_cons.mpr ⟨⟨rfl, by decide, "java/util/ArrayList", zW_in 89 (by rfl) (by rfl), Or.inl rfl⟩, ?_⟩
  refine List.forall_mem_cons.mpr ⟨⟨rfl, by decide, "java/util/ArrayList", zW_in 90 (by rfl) (by rfl), Or.inl rfl⟩, ?_⟩
  refine List.forall_mem_cons.mpr ⟨⟨rfl, by decide, "java/util/ArrayList", zW_in 92 (by rfl) (by rfl), Or.inr (zW_in 93 (by rfl) (by rfl))⟩, ?_⟩
  refine List.forall_mem_cons.mpr ⟨⟨rfl, by decide, "java/util/AbstractList", zW_in 91 (by rfl) (by rfl), Or.inl rfl⟩, ?_⟩
  refine List.forall_mem_cons.mpr ⟨⟨rfl, by decide, "PlayoutChain$Clip", zW_in 487 (by rfl) (by rfl), Or.inl rfl⟩, ?_⟩
  refine List.forall_mem_cons.mpr ⟨⟨rfl, by decide, "PlayoutChain$Clip", zW_in 490 (by rfl) (by rfl), Or.inl rfl⟩, ?_⟩
  refine List.forall_mem_cons.mpr ⟨⟨rfl, by decide, "PlayoutChain$Clip", zW_in 493 (by rfl) (by rfl), Or.inl rfl⟩, ?_⟩
  refine List.forall_mem_cons.mpr ⟨⟨rfl, by decide, "PlayoutChain$Clip", zW_in 496 (by rfl) (by rfl), Or.inl rfl⟩, ?_⟩
  refine List.forall_mem_cons.mpr ⟨⟨rfl, by decide, "PlayoutChain$Clip", zW_in 501 (by rfl) (by rfl), Or.inl rfl⟩, ?_⟩
  refine List.forall_mem_cons.mpr ⟨⟨rfl, by decide, "PlayoutChain$Clip", zW_in 499 (by rfl) (by rfl), Or.inl rfl⟩, ?_⟩
  refine List.forall_mem_cons.mpr ⟨⟨rfl, by decide, "PlayoutChain$Clip", zW_in 500 (by rfl) (by rfl), Or.inl rfl⟩, ?_⟩
  refine List.forall_mem_cons.mpr ⟨⟨rfl, by decide, "PlayoutChain$Clip", zW_in 503 (by rfl) (by rfl), Or.inl rfl⟩, ?_⟩
  refine List.forall_mem_cons.mpr ⟨⟨rfl, by decide, "PlayoutChain$Event", zW_in 666 (by rfl) (by rfl), Or.inl rfl⟩, ?_⟩
  refine List.forall_mem_cons.mpr ⟨⟨rfl, by decide, "PlayoutChain$Event", zW_in 668 (by rfl) (by rfl), Or.inl rfl⟩, ?_⟩
  refine List.forall_mem_cons.mpr ⟨⟨rfl, by decide, "PlayoutChain$Event", zW_in 670 (by rfl) (by rfl), Or.inl rfl⟩, ?_⟩
  refine List.forall_mem_cons.mpr ⟨⟨rfl, by decide, "PlayoutChain$Event", zW_in 672 (by rfl) (by rfl), Or.inl rfl⟩, ?_⟩
  refine List.forall_mem_cons.mpr ⟨⟨rfl, by decide, "PlayoutChain$Event", zW_in 674 (by rfl) (by rfl), Or.inl rfl⟩, ?_⟩
  refine List.forall_mem_cons.mpr ⟨⟨rfl, by decide, "PlayoutChain$Event", zW_in 676 (by rfl) (by rfl), Or.inl rfl⟩, ?_⟩
  refine List.forall_mem_cons.mpr ⟨⟨rfl, by decide, "PlayoutChain$Event", zW_in 678 (by rfl) (by rfl), Or.inl rfl⟩, ?_⟩
  refine List.forall_mem_cons.mpr ⟨⟨rfl, by decide, "PlayoutChain$Event", zW_in 680 (by rfl) (by rfl), Or.inl rfl⟩, ?_⟩
  refine List.forall_mem_cons.mpr ⟨⟨rfl, by decide, "PlayoutChain$Event", zW_in 682 (by rfl) (by rfl), Or.inl rfl⟩, ?_⟩
  refine List.forall_mem_cons.mpr ⟨⟨rfl, by decide, "PlayoutChain$Event", zW_in 684 (by rfl) (by rfl), Or.inl rfl⟩, ?_⟩
  refine List.forall_mem_cons.mpr ⟨⟨rfl, by decide, "PlayoutChain$Filler", zW_in 130 (by rfl) (by rfl), Or.inl rfl⟩, ?_⟩
  refine List.forall_mem_cons.mpr ⟨⟨rfl, by decide, "PlayoutChain$Filler", zW_in 131 (by rfl) (by rfl), Or.inl rfl⟩, ?_⟩
  refine List.forall_mem_cons.mpr ⟨⟨rfl, by decide, "PlayoutChain$Filler", zW_in 132 (by rfl) (by rfl), Or.inl rfl⟩, ?_⟩
  refine List.forall_mem_cons.mpr ⟨⟨rfl, by decide, "PlayoutChain$Filler", zW_in 133 (by rfl) (by rfl), Or.inl rfl⟩, ?_⟩
  refine List.forall_mem_cons.mpr ⟨⟨rfl, by decide, "PlayoutChain$Filler", zW_in 135 (by rfl) (by rfl), Or.inl rfl⟩, ?_⟩
  refine List.forall_mem_cons.mpr ⟨⟨rfl, by decide, "PlayoutChain$Filler", zW_in 136 (by rfl) (by rfl), Or.inl rfl⟩, ?_⟩
  refine List.forall_mem_cons.mpr ⟨⟨rfl, by decide, "PlayoutChain$Filler", zW_in 137 (by rfl) (by rfl), Or.inl rfl⟩, ?_⟩
  refine List.forall_mem_cons.mpr ⟨⟨rfl, by decide, "PlayoutChain$Filler", zW_in 138 (by rfl) (by rfl), Or.inl rfl⟩, ?_⟩
  refine List.forall_mem_cons.mpr ⟨⟨rfl, by decide, "PlayoutChain$Filler", zW_in 139 (by rfl) (by rfl), Or.inl rfl⟩, ?_⟩
  refine List.forall_mem_cons.mpr ⟨⟨rfl, by decide, "PlayoutChain$Filler", zW_in 140 (by rfl) (by rfl), Or.inl rfl⟩, ?_⟩
  refine List.forall_mem_cons.mpr ⟨⟨rfl, by decide, "PlayoutChain$Filler", zW_in 141 (by rfl) (by rfl), Or.inl rfl⟩, ?_⟩
  refine List.forall_mem_cons.mpr ⟨⟨rfl, by decide, "PlayoutChain$Clip", zW_in 491 (by rfl) (by rfl), Or.inl rfl⟩, ?_⟩
  refine List.forall_mem_cons.mpr ⟨⟨rfl, by decide, "PlayoutChain$Clip", zW_in 488 (by rfl) (by rfl), Or.inl rfl⟩, ?_⟩
  refine List.forall_mem_cons.mpr ⟨⟨rfl, by decide, "PlayoutChain$Clip", zW_in 494 (by rfl) (by rfl), Or.inl rfl⟩, ?_⟩
  refine List.forall_mem_cons.mpr ⟨⟨rfl, by decide, "PlayoutChain$Clip", zW_in 497 (by rfl) (by rfl), Or.inl rfl⟩, ?_⟩
  refine List.forall_mem_cons.mpr ⟨⟨rfl, by decide, "PlayoutChain$Secondary", zW_in 1012 (by rfl) (by rfl), Or.inl rfl⟩, ?_⟩
  refine List.forall_mem_cons.mpr ⟨⟨rfl, by decide, "PlayoutChain$Secondary", zW_in 1013 (by rfl) (by rfl), Or.inl rfl⟩, ?_⟩
  refine List.forall_mem_cons.mpr ⟨⟨rfl, by decide, "PlayoutChain$Secondary", zW_in 1014 (by rfl) (by rfl), Or.inl rfl⟩, ?_⟩
  refine List.forall_mem_cons.mpr ⟨⟨rfl, by decide, "PlayoutChain$Timeline", zW_in 107 (by rfl) (by rfl), Or.inl rfl⟩, ?_⟩
  refine List.forall_mem_cons.mpr ⟨⟨rfl, by decide, "PlayoutChain$Timeline", zW_in 108 (by rfl) (by rfl), Or.inl rfl⟩, ?_⟩
  refine List.forall_mem_cons.mpr ⟨⟨rfl, by decide, "PlayoutChain$Timeline", zW_in 109 (by rfl) (by rfl), Or.inl rfl⟩, ?_⟩
  refine List.forall_mem_cons.mpr ⟨⟨rfl, by decide, "PlayoutChain$Timeline", zW_in 110 (by rfl) (by rfl), Or.inl rfl⟩, ?_⟩
  refine List.forall_mem_cons.mpr ⟨⟨rfl, by decide, "PlayoutChain", zW_in 166 (by rfl) (by rfl), Or.inl rfl⟩, ?_⟩
  refine List.forall_mem_cons.mpr ⟨⟨rfl, by decide, "PlayoutChain", zW_in 167 (by rfl) (by rfl), Or.inl rfl⟩, ?_⟩
  refine List.forall_mem_cons.mpr ⟨⟨rfl, by decide, "PlayoutChain", zW_in 168 (by rfl) (by rfl), Or.inl rfl⟩, ?_⟩
  refine List.forall_mem_cons.mpr ⟨⟨rfl, by decide, "PlayoutChain", zW_in 169 (by rfl) (by rfl), Or.inl rfl⟩, ?_⟩
  refine List.forall_mem_cons.mpr ⟨⟨rfl, by decide, "PlayoutChain", zW_in 170 (by rfl) (by rfl), Or.inl rfl⟩, ?_⟩
  refine List.forall_mem_cons.mpr ⟨⟨rfl, by decide, "PlayoutChain", zW_in 171 (by rfl) (by rfl), Or.inl rfl⟩, ?_⟩
  refine List.forall_mem_cons.mpr ⟨⟨rfl, by decide, "PlayoutChain", zW_in 172 (by rfl) (by rfl), Or.inl rfl⟩, ?_⟩
  refine List.forall_mem_cons.mpr ⟨⟨rfl, by decide, "PlayoutChain", zW_in 173 (by rfl) (by rfl), Or.inl rfl⟩, ?_⟩
  refine List.forall_mem_cons.mpr ⟨⟨rfl, by decide, "PlayoutChain$Clip", zW_in 502 (by rfl) (by rfl), Or.inl rfl⟩, ?_⟩
  refine List.forall_mem_cons.mpr ⟨⟨rfl, by decide, "PlayoutChain$Event", zW_in 675 (by rfl) (by rfl), Or.inl rfl⟩, ?_⟩
  refine List.forall_mem_cons.mpr ⟨⟨rfl, by decide, "PlayoutChain$Event", zW_in 673 (by rfl) (by rfl), Or.inl rfl⟩, ?_⟩
  refine List.forall_mem_cons.mpr ⟨⟨rfl, by decide, "PlayoutChain$Event", zW_in 667 (by rfl) (by rfl), Or.inl rfl⟩, ?_⟩
  refine List.forall_mem_cons.mpr ⟨⟨rfl, by decide, "PlayoutChain$Clip", zW_in 489 (by rfl) (by rfl), Or.inl rfl⟩, ?_⟩
  refine List.forall_mem_cons.mpr ⟨⟨rfl, by decide, "PlayoutChain$Event", zW_in 677 (by rfl) (by rfl), Or.inl rfl⟩, ?_⟩
  refine List.forall_mem_cons.mpr ⟨⟨rfl, by decide, "PlayoutChain$Event", zW_in 683 (by rfl) (by rfl), Or.inl rfl⟩, ?_⟩
  refine List.forall_mem_cons.mpr ⟨⟨rfl, by decide, "PlayoutChain$Event", zW_in 685 (by rfl) (by rfl), Or.inl rfl⟩, ?_⟩
  refine List.forall_mem_cons.mpr ⟨⟨rfl, by decide, "PlayoutChain$Event", zW_in 679 (by rfl) (by rfl), Or.inl rfl⟩, ?_⟩
  refine List.forall_mem_cons.mpr ⟨⟨rfl, by decide, "PlayoutChain$Event", zW_in 681 (by rfl) (by rfl), Or.inl rfl⟩, ?_⟩
  refine List.forall_mem_cons.mpr ⟨⟨rfl, by decide, "PlayoutChain$Timeline", zW_in 111 (by rfl) (by rfl), Or.inl rfl⟩, ?_⟩
  refine List.forall_mem_cons.mpr ⟨⟨rfl, by decide, "PlayoutChain$Filler", zW_in 134 (by rfl) (by rfl), Or.inl rfl⟩, ?_⟩
  refine List.forall_mem_cons.mpr ⟨⟨rfl, by decide, "PlayoutChain$Clip", zW_in 504 (by rfl) (by rfl), Or.inl rfl⟩, ?_⟩
  refine List.forall_mem_cons.mpr ⟨⟨rfl, by decide, "PlayoutChain$Clip", zW_in 492 (by rfl) (by rfl), Or.inl rfl⟩, ?_⟩
  refine List.forall_mem_cons.mpr ⟨⟨rfl, by decide, "PlayoutChain$Clip", zW_in 495 (by rfl) (by rfl), Or.inl rfl⟩, ?_⟩
  refine List.forall_mem_cons.mpr ⟨⟨rfl, by decide, "PlayoutChain$Event", zW_in 669 (by rfl) (by rfl), Or.inl rfl⟩, ?_⟩
  refine List.forall_mem_cons.mpr ⟨⟨rfl, by decide, "PlayoutChain$Event", zW_in 671 (by rfl) (by rfl), Or.inl rfl⟩, ?_⟩
  refine List.forall_mem_cons.mpr ⟨⟨rfl, by decide, "PlayoutChain$Clip", zW_in 498 (by rfl) (by rfl), Or.inl rfl⟩, ?_⟩
  exact fun x h => absurd h List.not_mem_nil
def zNTab : List (Nat × Nat × Nat) := [(8, 8, 5), (10, 23, 7), (14, 9, 7), (14, 19, 4), (14, 29, 2), (14, 65, 0), (14, 106, 1), (14, 148, 3)]
def zNOK (own : String) (idx ci : Nat) : Prop := zcl[ci]? = some (zFq ci) ∧ (Cond.classLink own idx (zFq ci).1 : Jvm.Cond) ∈ zW ∧ (Cond.instantiable (zFq ci).1 (zFq ci).2.2 : Jvm.Cond) ∈ zW ∧ (Cond.initialized (zFq ci).1 : Jvm.Cond) ∈ zW
set_option maxRecDepth 20000 in
theorem zNTab_ok : ∀ x ∈ zNTab, zNOK (zOwn.getD x.1 "") x.2.1 x.2.2 := by
  unfold zNTab
  refine List.forall_mem_cons.mpr ⟨⟨rfl, zW_in 67 (by rfl) (by rfl), zW_in 68 (by rfl) (by rfl), zW_in 37 (by rfl) (by rfl)⟩, ?_⟩
  refine List.forall_mem_cons.mpr ⟨⟨rfl, zW_in 664 (by rfl) (by rfl), zW_in 76 (by rfl) (by rfl), zW_in 40 (by rfl) (by rfl)⟩, ?_⟩
  refine List.forall_mem_cons.mpr ⟨⟨rfl, zW_in 75 (by rfl) (by rfl), zW_in 76 (by rfl) (by rfl), zW_in 40 (by rfl) (by rfl)⟩, ?_⟩
  refine List.forall_mem_cons.mpr ⟨⟨rfl, zW_in 101 (by rfl) (by rfl), zW_in 102 (by rfl) (by rfl), zW_in 41 (by rfl) (by rfl)⟩, ?_⟩
  refine List.forall_mem_cons.mpr ⟨⟨rfl, zW_in 122 (by rfl) (by rfl), zW_in 123 (by rfl) (by rfl), zW_in 42 (by rfl) (by rfl)⟩, ?_⟩
  refine List.forall_mem_cons.mpr ⟨⟨rfl, zW_in 480 (by rfl) (by rfl), zW_in 482 (by rfl) (by rfl), zW_in 64 (by rfl) (by rfl)⟩, ?_⟩
  refine List.forall_mem_cons.mpr ⟨⟨rfl, zW_in 229 (by rfl) (by rfl), zW_in 659 (by rfl) (by rfl), zW_in 65 (by rfl) (by rfl)⟩, ?_⟩
  refine List.forall_mem_cons.mpr ⟨⟨rfl, zW_in 1006 (by rfl) (by rfl), zW_in 1007 (by rfl) (by rfl), zW_in 66 (by rfl) (by rfl)⟩, ?_⟩
  exact fun x h => absurd h List.not_mem_nil
def zKTab : List (Nat × Nat × Nat) := [(10, 63, 3), (11, 59, 0), (14, 65, 0), (14, 106, 1), (14, 148, 3)]
def zKOK (own : String) (idx ci : Nat) : Prop := zcl[ci]? = some (zFq ci) ∧ (Cond.classLink own idx (zFq ci).1 : Jvm.Cond) ∈ zW
set_option maxRecDepth 20000 in
theorem zKTab_ok : ∀ x ∈ zKTab, zKOK (zOwn.getD x.1 "") x.2.1 x.2.2 := by
  unfold zKTab
  refine List.forall_mem_cons.mpr ⟨⟨rfl, zW_in 1149 (by rfl) (by rfl)⟩, ?_⟩
  refine List.forall_mem_cons.mpr ⟨⟨rfl, zW_in 587 (by rfl) (by rfl)⟩, ?_⟩
  refine List.forall_mem_cons.mpr ⟨⟨rfl, zW_in 480 (by rfl) (by rfl)⟩, ?_⟩
  refine List.forall_mem_cons.mpr ⟨⟨rfl, zW_in 229 (by rfl) (by rfl)⟩, ?_⟩
  refine List.forall_mem_cons.mpr ⟨⟨rfl, zW_in 1006 (by rfl) (by rfl)⟩, ?_⟩
  exact fun x h => absurd h List.not_mem_nil
def zLTab : List (Nat × Nat × Nat × Nat) := [(2, 265, 0, 1431655765), (2, 266, 0, 858993459), (2, 267, 0, 252645135), (4, 200, 0, 2147483639), (8, 106, 1, 3212836864), (8, 107, 1, 3221225472), (8, 112, 1, 1091567616), (8, 127, 4, 18446744073709550615), (8, 137, 4, 31), (8, 142, 4, 961), (8, 147, 4, 7), (8, 152, 4, 11), (8, 164, 4, 3), (8, 170, 4, 5), (8, 191, 1, 3262119936), (8, 206, 0, 100000000), (14, 386, 1, 1258291200)]
def zCOK (own : String) (idx s v : Nat) : Prop := if s = 0 then (Cond.constant own idx (Int32.ofNat v) : Jvm.Cond) ∈ zW else if s = 4 then (Cond.constantLong own idx (Int64.ofNat v) : Jvm.Cond) ∈ zW else (Cond.constantFloat own idx (UInt32.ofNat v) : Jvm.Cond) ∈ zW
set_option maxRecDepth 20000 in
theorem zLTab_ok : ∀ x ∈ zLTab, zCOK (zOwn.getD x.1 "") x.2.1 x.2.2.1 x.2.2.2 := by
  unfold zLTab
  refine List.forall_mem_cons.mpr ⟨zW_in 1171 (by rfl) (by rfl), ?_⟩
  refine List.forall_mem_cons.mpr ⟨zW_in 1172 (by rfl) (by rfl), ?_⟩
  refine List.forall_mem_cons.mpr ⟨zW_in 1173 (by rfl) (by rfl), ?_⟩
  refine List.forall_mem_cons.mpr ⟨zW_in 544 (by rfl) (by rfl), ?_⟩
  refine List.forall_mem_cons.mpr ⟨zW_in 1287 (by rfl) (by rfl), ?_⟩
  refine List.forall_mem_cons.mpr ⟨zW_in 1288 (by rfl) (by rfl), ?_⟩
  refine List.forall_mem_cons.mpr ⟨zW_in 1274 (by rfl) (by rfl), ?_⟩
  refine List.forall_mem_cons.mpr ⟨zW_in 1235 (by rfl) (by rfl), ?_⟩
  refine List.forall_mem_cons.mpr ⟨zW_in 1242 (by rfl) (by rfl), ?_⟩
  refine List.forall_mem_cons.mpr ⟨zW_in 1243 (by rfl) (by rfl), ?_⟩
  refine List.forall_mem_cons.mpr ⟨zW_in 1244 (by rfl) (by rfl), ?_⟩
  refine List.forall_mem_cons.mpr ⟨zW_in 1245 (by rfl) (by rfl), ?_⟩
  refine List.forall_mem_cons.mpr ⟨zW_in 1262 (by rfl) (by rfl), ?_⟩
  refine List.forall_mem_cons.mpr ⟨zW_in 1263 (by rfl) (by rfl), ?_⟩
  refine List.forall_mem_cons.mpr ⟨zW_in 1275 (by rfl) (by rfl), ?_⟩
  refine List.forall_mem_cons.mpr ⟨zW_in 1312 (by rfl) (by rfl), ?_⟩
  refine List.forall_mem_cons.mpr ⟨zW_in 1261 (by rfl) (by rfl), ?_⟩
  exact fun x h => absurd h List.not_mem_nil
