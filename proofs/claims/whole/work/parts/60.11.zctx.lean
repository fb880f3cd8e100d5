/-! the methods by number; what their instructions name, held against the tables of the Statement -/
def zOwn : List String := [RJ15, RJ3, RJ6, RJ7, RJ8, RJ9, RJx4a65c, RJxa1e45, RJxc12de, RJxf58ca, RL, RX0, RX1, RX2, RX3, RX4, RX5, RX6]
def zYs : List MethodName := [yX0_init, yX0_hasDay, yX1_init, yX1_takeOffAir, yX1_putOnAir, yX1_cutAt, yX1_isOnAir, yX1_secondariesAt, yX2_init, yX2_takePieces, yX2_isIn, yX2_numberOf, yX2_lengthOf, yX2_levelOf, yX2_deviationOf, yX2_chooseBySums, yX2_addUp, yX2_addPieceToSums, yX2_collectChoices, yX2_keepLonger, yX2_takeLonger, yX2_fewestFor, yX2_secondsIn, yX2_fewestByTrying, yX3_init, yX3_showsFrom, yX3_showsUntil, yX3_uncutStart, yX4_init, yX4_clear, yX4_add, yX4_cutAt, yX4_takeFrom, yX4_has, yX4_clipIn, yX4_startIn, yX4_endIn, yX4_lengthIn, yX4_clipFromSpans, yX4_clipFromSeconds, yX4_secondsApartFrom, yX5_init, yX5_addProgramme, yX5_addPiece, yX5_plays, yX5_addPlays, yX5_insert, yX5_remove, yX5_move, yX5_setOverrun, yX5_attach, yX5_events, yX5_programme, yX5_fate, yX5_startOf, yX5_endOf, yX5_spans, yX5_spanClip, yX5_spanStart, yX5_spanLength, yX5_airAt, yX5_airBySeconds, yX5_slate, yX5_showing, yX5_secondaryStart, yX5_meanLevel, yX5_meanLevelBits, yX5_fill, yX5_fillByTrying, yX5_fillAt, yX5_deviation, yX5_air, yX5_today, yX5_entries, yX5_entryClip, yX5_entryStart, yX5_apart, yX5_aired, yX5_checkClipValues, yX5_checkRoomForClip, yX5_checkClipNumber, yX5_checkPosition, yX5_checkSpan, yX5_checkEntry, yX5_checkSecond, yX5_checkGap, yX5_programmeNumbered, yX5_eventAt, yX5_eventOnAir, yX5_choiceFor, yX5_numberOfPieces, yX5_layOut, yX5_clearAir, yX5_isBarred, yX5_layEvent, yX5_layGap, yX5_levelAhead, yX5_cutAt, yX5_countSecondsAired, yX5_endEvents, yX5_meanOfSpans, yX5_bitsOf, yX6_init, yX6_thrown, yX6_raises, yX6_in, yX6_isClip, yX6_adds, yX6_addProgramme, yX6_addPiece, yX6_isClip_, yX6_plays, yX6_addPlays, yX6_goes, yX6_isEvent, yX6_insert, yX6_remove, yX6_move, yX6_setOverrun, yX6_attach, yX6_events, yX6_programme, yX6_isDay, yX6_deviationOf, yX6_isLower, yX6_fills, yX6_takes, yX6_asks, yX6_fill, yX6_fillByTrying, yX6_fillAt, yX6_deviation, yX6_lays, yX6_cuts, yX6_levelNow, yX6_gap, yX6_barred, yX6_laysEvent, yX6_layOut, yX6_fate, yX6_isAired, yX6_startOf, yX6_endOf, yX6_spans, yX6_isSpan, yX6_spanClip, yX6_spanStart, yX6_spanLength, yX6_clipAt, yX6_airAt, yX6_airBySeconds, yX6_slate, yX6_shows, yX6_showing, yX6_secondaryStart, yX6_meanLevel, yX6_meanLevelBits, yX6_air, yX6_today, yX6_entries, yX6_entryClip, yX6_entryStart, yX6_apart, yX6_aired, yJx4a65c_init_da8c8, yJx4a65c_add_9ea2d, yJx4a65c_add_72be8, yJx4a65c_add_7a177, yJx4a65c_rangeCheckForAdd_d00df, yJx4a65c_grow_92f84, yJx4a65c_grow_d5877, yJx4a65c_get_915e3, yJx4a65c_elementData_915e3, yJx4a65c_remove_915e3, yJx4a65c_fastRemove_b59b0, yJx4a65c_size_8abf5, yJ15_checkIndex_7cf53, yJ3_checkIndex_8e157, yJ8_newLength_cabcc, yJ7_copyOf_1904c, yJ7_copyOf_6403c, yJ7_fill_031fb, yJ6_bitCount_0f7a4, yJ9_abs_f6c48, yJxf58ca_floatToIntBits_5c35a, yJxf58ca_isNaN_12338, yJxc12de_init_da8c8, yJxa1e45_init_da8c8, yL_addProgramme, yL_addPiece, yL_plays, yL_addPlays, yL_insert, yL_remove, yL_move, yL_setOverrun, yL_attach, yL_programme, yL_fate, yL_startOf, yL_endOf, yL_spanClip, yL_spanStart, yL_spanLength, yL_airAt, yL_airBySeconds, yL_showing, yL_secondaryStart, yL_meanLevel, yL_meanLevelBits, yL_fill, yL_fillByTrying, yL_fillAt, yL_deviation, yL_air, yL_entryClip, yL_entryStart, yL_apart, yL_aired, yL_law]
def zY (k : Nat) : MethodName := zYs.getD k ⟨"", "", ""⟩
def zBs : List ByteArray := [cX0_init, cX0_hasDay, cX1_init, cX1_takeOffAir, cX1_putOnAir, cX1_cutAt, cX1_isOnAir, cX1_secondariesAt, cX2_init, cX2_takePieces, cX2_isIn, cX2_numberOf, cX2_lengthOf, cX2_levelOf, cX2_deviationOf, cX2_chooseBySums, cX2_addUp, cX2_addPieceToSums, cX2_collectChoices, cX2_keepLonger, cX2_takeLonger, cX2_fewestFor, cX2_secondsIn, cX2_fewestByTrying, cX3_init, cX3_showsFrom, cX3_showsUntil, cX3_uncutStart, cX4_init, cX4_clear, cX4_add, cX4_cutAt, cX4_takeFrom, cX4_has, cX4_clipIn, cX4_startIn, cX4_endIn, cX4_lengthIn, cX4_clipFromSpans, cX4_clipFromSeconds, cX4_secondsApartFrom, cX5_init, cX5_addProgramme, cX5_addPiece, cX5_plays, cX5_addPlays, cX5_insert, cX5_remove, cX5_move, cX5_setOverrun, cX5_attach, cX5_events, cX5_programme, cX5_fate, cX5_startOf, cX5_endOf, cX5_spans, cX5_spanClip, cX5_spanStart, cX5_spanLength, cX5_airAt, cX5_airBySeconds, cX5_slate, cX5_showing, cX5_secondaryStart, cX5_meanLevel, cX5_meanLevelBits, cX5_fill, cX5_fillByTrying, cX5_fillAt, cX5_deviation, cX5_air, cX5_today, cX5_entries, cX5_entryClip, cX5_entryStart, cX5_apart, cX5_aired, cX5_checkClipValues, cX5_checkRoomForClip, cX5_checkClipNumber, cX5_checkPosition, cX5_checkSpan, cX5_checkEntry, cX5_checkSecond, cX5_checkGap, cX5_programmeNumbered, cX5_eventAt, cX5_eventOnAir, cX5_choiceFor, cX5_numberOfPieces, cX5_layOut, cX5_clearAir, cX5_isBarred, cX5_layEvent, cX5_layGap, cX5_levelAhead, cX5_cutAt, cX5_countSecondsAired, cX5_endEvents, cX5_meanOfSpans, cX5_bitsOf, cX6_init, cX6_thrown, cX6_raises, cX6_in, cX6_isClip, cX6_adds, cX6_addProgramme, cX6_addPiece, cX6_isClip_, cX6_plays, cX6_addPlays, cX6_goes, cX6_isEvent, cX6_insert, cX6_remove, cX6_move, cX6_setOverrun, cX6_attach, cX6_events, cX6_programme, cX6_isDay, cX6_deviationOf, cX6_isLower, cX6_fills, cX6_takes, cX6_asks, cX6_fill, cX6_fillByTrying, cX6_fillAt, cX6_deviation, cX6_lays, cX6_cuts, cX6_levelNow, cX6_gap, cX6_barred, cX6_laysEvent, cX6_layOut, cX6_fate, cX6_isAired, cX6_startOf, cX6_endOf, cX6_spans, cX6_isSpan, cX6_spanClip, cX6_spanStart, cX6_spanLength, cX6_clipAt, cX6_airAt, cX6_airBySeconds, cX6_slate, cX6_shows, cX6_showing, cX6_secondaryStart, cX6_meanLevel, cX6_meanLevelBits, cX6_air, cX6_today, cX6_entries, cX6_entryClip, cX6_entryStart, cX6_apart, cX6_aired, cJx4a65c_init_da8c8, cJx4a65c_add_9ea2d, cJx4a65c_add_72be8, cJx4a65c_add_7a177, cJx4a65c_rangeCheckForAdd_d00df, cJx4a65c_grow_92f84, cJx4a65c_grow_d5877, cJx4a65c_get_915e3, cJx4a65c_elementData_915e3, cJx4a65c_remove_915e3, cJx4a65c_fastRemove_b59b0, cJx4a65c_size_8abf5, cJ15_checkIndex_7cf53, cJ3_checkIndex_8e157, cJ8_newLength_cabcc, cJ7_copyOf_1904c, cJ7_copyOf_6403c, cJ7_fill_031fb, cJ6_bitCount_0f7a4, cJ9_abs_f6c48, cJxf58ca_floatToIntBits_5c35a, cJxf58ca_isNaN_12338, cJxc12de_init_da8c8, cJxa1e45_init_da8c8, cL_addProgramme, cL_addPiece, cL_plays, cL_addPlays, cL_insert, cL_remove, cL_move, cL_setOverrun, cL_attach, cL_programme, cL_fate, cL_startOf, cL_endOf, cL_spanClip, cL_spanStart, cL_spanLength, cL_airAt, cL_airBySeconds, cL_showing, cL_secondaryStart, cL_meanLevel, cL_meanLevelBits, cL_fill, cL_fillByTrying, cL_fillAt, cL_deviation, cL_air, cL_entryClip, cL_entryStart, cL_apart, cL_aired, cL_law]
def zB (k : Nat) : ByteArray := zBs.getD k ⟨#[]⟩
def zMLs : List Nat := [8, 2, 4, 1, 3, 2, 1, 5, 1, 7, 3, 2, 2, 2, 6, 7, 2, 5, 7, 3, 2, 3, 4, 6, 4, 3, 3, 3, 1, 1, 4, 2, 3, 2, 2, 2, 2, 2, 3, 4, 7, 1, 7, 6, 2, 4, 6, 2, 4, 5, 6, 1, 2, 3, 2, 2, 1, 2, 2, 2, 2, 2, 3, 4, 6, 1, 1, 3, 4, 7, 3, 1, 1, 1, 2, 2, 1, 2, 4, 1, 2, 2, 2, 2, 1, 2, 3, 2, 3, 4, 3, 4, 2, 6, 7, 8, 4, 3, 3, 3, 6, 5, 1, 1, 2, 3, 4, 7, 6, 5, 2, 2, 3, 4, 2, 7, 3, 7, 4, 7, 1, 2, 2, 6, 3, 7, 6, 3, 3, 3, 6, 3, 5, 2, 2, 5, 4, 6, 3, 2, 2, 2, 2, 1, 2, 2, 2, 2, 3, 2, 2, 3, 7, 6, 4, 5, 2, 2, 1, 1, 2, 2, 4, 2, 1, 2, 4, 5, 2, 4, 1, 2, 2, 4, 4, 1, 2, 3, 4, 2, 4, 4, 1, 1, 1, 1, 1, 1, 8, 7, 4, 5, 7, 4, 5, 5, 7, 4, 4, 4, 4, 4, 4, 4, 4, 4, 4, 5, 3, 3, 5, 5, 6, 5, 3, 4, 4, 3, 4, 9]
def zML (k : Nat) : Nat := zMLs.getD k 0
def zRTs : List (Option FieldType) := [none, (some .boolean), none, none, none, none, (some .boolean), (some .int), none, none, (some .boolean), (some .int), (some .int), (some .int), (some .float), (some .int), none, none, none, none, none, (some .int), (some .int), (some .int), none, (some .int), (some .int), (some .int), none, none, none, none, none, (some .boolean), (some .int), (some .int), (some .int), (some .int), (some .int), (some .int), (some .int), none, (some .int), (some .int), (some .int), (some .int), (some .int), (some .int), (some .int), (some .int), (some .int), (some .int), (some .int), (some .char), (some .int), (some .int), (some .int), (some .int), (some .int), (some .int), (some .int), (some .int), (some .int), (some .int), (some .int), (some .float), (some .int), (some .int), (some .int), (some .int), (some .float), (some .int), (some .int), (some .int), (some .int), (some .int), (some .int), (some .long), none, none, none, none, none, none, none, none, (some (.object "PlayoutChain$Clip")), (some (.object "PlayoutChain$Event")), (some (.object "PlayoutChain$Event")), (some .int), (some .int), none, none, (some .boolean), (some .int), none, (some .int), none, none, none, (some .float), (some .int), none, (some .int), (some .int), (some .boolean), (some .boolean), (some .int), (some .int), (some .int), (some .boolean), (some .int), (some .int), none, (some .boolean), (some .int), (some .int), (some .int), (some .int), (some .int), (some .int), (some .int), (some .boolean), (some .float), (some .boolean), (some .boolean), none, (some .boolean), (some .int), (some .int), (some .int), (some .float), none, none, (some .int), none, (some .boolean), (some .int), none, (some .char), (some .boolean), (some .int), (some .int), (some .int), (some .boolean), (some .int), (some .int), (some .int), (some .int), (some .int), (some .int), (some .int), (some .int), (some .int), (some .int), (some .float), (some .int), (some .int), (some .int), (some .int), (some .int), (some .int), (some .int), (some .long), none, (some .boolean), none, none, none, (some (.array (.object "java/lang/Object"))), (some (.array (.object "java/lang/Object"))), (some (.object "java/lang/Object")), (some (.object "java/lang/Object")), (some (.object "java/lang/Object")), none, (some .int), (some .int), (some .int), (some .int), (some (.array (.object "java/lang/Object"))), (some (.array (.object "java/lang/Object"))), none, (some .int), (some .float), (some .int), (some .boolean), none, none, (some .int), (some .int), (some .int), (some .int), (some .int), (some .int), (some .int), (some .int), (some .int), (some .int), (some .int), (some .int), (some .int), (some .int), (some .int), (some .int), (some .int), (some .int), (some .int), (some .int), (some .int), (some .int), (some .int), (some .int), (some .int), (some .int), (some .int), (some .int), (some .int), (some .int), (some .int), (some .boolean)]
def zRT (k : Nat) : Option FieldType := zRTs.getD k none
def zOIs : List Nat := [11, 11, 12, 12, 12, 12, 12, 12, 13, 13, 13, 13, 13, 13, 13, 13, 13, 13, 13, 13, 13, 13, 13, 13, 14, 14, 14, 14, 15, 15, 15, 15, 15, 15, 15, 15, 15, 15, 15, 15, 15, 16, 16, 16, 16, 16, 16, 16, 16, 16, 16, 16, 16, 16, 16, 16, 16, 16, 16, 16, 16, 16, 16, 16, 16, 16, 16, 16, 16, 16, 16, 16, 16, 16, 16, 16, 16, 16, 16, 16, 16, 16, 16, 16, 16, 16, 16, 16, 16, 16, 16, 16, 16, 16, 16, 16, 16, 16, 16, 16, 16, 16, 17, 17, 17, 17, 17, 17, 17, 17, 17, 17, 17, 17, 17, 17, 17, 17, 17, 17, 17, 17, 17, 17, 17, 17, 17, 17, 17, 17, 17, 17, 17, 17, 17, 17, 17, 17, 17, 17, 17, 17, 17, 17, 17, 17, 17, 17, 17, 17, 17, 17, 17, 17, 17, 17, 17, 17, 17, 17, 17, 17, 17, 17, 6, 6, 6, 6, 6, 6, 6, 6, 6, 6, 6, 6, 0, 1, 4, 3, 3, 3, 2, 5, 9, 9, 8, 7, 10, 10, 10, 10, 10, 10, 10, 10, 10, 10, 10, 10, 10, 10, 10, 10, 10, 10, 10, 10, 10, 10, 10, 10, 10, 10, 10, 10, 10, 10, 10, 10]
/-- the number of a method's class -/
def zOI (k : Nat) : Nat := zOIs.getD k 0
def zRKs : List Nat := [0, 0, 3, 0, 0, 0, 0, 3, 0, 3, 0, 0, 0, 0, 1, 2, 1, 0, 1, 0, 0, 0, 1, 2, 0, 1, 1, 0, 0, 0, 0, 2, 2, 0, 1, 1, 1, 2, 2, 2, 2, 3, 6, 6, 4, 4, 5, 3, 5, 4, 6, 1, 4, 6, 6, 6, 6, 6, 6, 6, 6, 6, 6, 6, 6, 6, 6, 4, 3, 4, 4, 6, 0, 0, 2, 2, 6, 3, 0, 1, 1, 1, 0, 0, 0, 0, 3, 3, 4, 3, 3, 5, 3, 3, 4, 3, 3, 3, 3, 3, 3, 0, 0, 0, 0, 0, 1, 0, 2, 2, 1, 2, 2, 0, 1, 2, 2, 2, 2, 2, 0, 2, 1, 0, 0, 2, 1, 3, 4, 5, 4, 4, 0, 0, 0, 3, 2, 4, 5, 6, 6, 7, 7, 6, 6, 7, 7, 7, 0, 6, 7, 6, 0, 6, 7, 6, 7, 6, 0, 0, 1, 1, 6, 2, 2, 5, 4, 4, 0, 2, 3, 2, 0, 2, 0, 0, 1, 0, 0, 1, 0, 0, 0, 0, 1, 0, 1, 0, 7, 7, 5, 5, 6, 4, 6, 5, 7, 5, 7, 7, 7, 7, 7, 7, 7, 7, 7, 7, 7, 7, 5, 4, 5, 5, 7, 3, 3, 7, 4, 8]
/-- how deep calls go below a method -/
def zRK (k : Nat) : Nat := zRKs.getD k 0
def zHHs : List (Option (List (Nat × Nat × Nat × Nat))) := [none, none, none, none, none, none, none, none, none, none, none, none, none, none, none, none, none, none, none, none, none, none, none, none, none, none, none, none, none, none, none, none, none, none, none, none, none, none, none, none, none, none, none, none, none, none, none, none, none, none, none, none, none, none, none, none, none, none, none, none, none, none, none, none, none, none, none, none, none, none, none, none, none, none, none, none, none, none, none, none, none, none, none, none, none, none, none, none, none, none, none, none, none, none, none, none, none, none, none, none, none, none, none, none, none, none, none, none, none, none, none, none, none, none, none, none, none, none, none, none, none, none, none, none, none, none, none, none, none, none, none, none, none, none, none, none, none, none, none, none, none, none, none, none, none, none, none, none, none, none, none, none, none, none, none, none, none, none, none, none, none, none, none, none, none, none, none, none, none, none, none, none, none, none, none, none, none, none, none, none, none, none, none, none, none, none, none, none, some [(0, 16, 19, 13), (0, 16, 23, 15)], some [(0, 14, 17, 13), (0, 14, 21, 15)], some [(0, 9, 12, 25), (0, 9, 15, 27)], some [(0, 10, 13, 25), (0, 10, 17, 27), (0, 10, 21, 13)], some [(0, 14, 17, 25), (0, 14, 21, 27), (0, 14, 25, 13), (0, 14, 29, 15)], some [(0, 9, 12, 25)], some [(0, 10, 13, 25)], some [(0, 10, 13, 25), (0, 10, 17, 13)], some [(0, 14, 17, 25), (0, 14, 21, 13), (0, 14, 25, 15)], some [(0, 9, 12, 25)], some [(0, 9, 12, 25)], some [(0, 9, 12, 25), (0, 9, 15, 60)], some [(0, 9, 12, 25), (0, 9, 15, 60)], some [(0, 9, 12, 25)], some [(0, 9, 12, 25)], some [(0, 9, 12, 25)], some [(0, 9, 12, 13)], some [(0, 9, 12, 13)], some [(0, 9, 12, 13)], some [(0, 10, 13, 25), (0, 10, 17, 60)], some [(0, 8, 11, 60)], some [(0, 8, 11, 60)], some [(0, 10, 13, 13), (0, 10, 17, 60)], some [(0, 10, 13, 13), (0, 10, 17, 60)], some [(0, 12, 15, 13), (0, 12, 19, 60)], some [(0, 10, 13, 13), (0, 10, 17, 60)], some [(0, 8, 11, 15)], some [(0, 9, 12, 25)], some [(0, 9, 12, 25)], some [(0, 8, 11, 60)], some [(0, 8, 11, 25)], none]
def zHH (k : Nat) : Option (List (Nat × Nat × Nat × Nat)) := zHHs.getD k none
def zW : List Jvm.Cond := lw_tbl.filter goodWord
theorem zW_in {w : Jvm.Cond} (i : Nat) (h : lw_tbl[i]? = some w) (g : goodWord w = true) : w ∈ zW := List.mem_filter.mpr ⟨List.mem_of_getElem? h, g⟩
theorem zW_all {ws : List Jvm.Cond} (h : ws.all (fun w => lw_tbl.contains w && goodWord w) = true) : ∀ w ∈ ws, w ∈ zW := by
  intro w hw
  have := List.all_eq_true.mp h w hw
  simp only [Bool.and_eq_true] at this
  exact List.mem_filter.mpr ⟨List.contains_iff_mem.mp this.1, this.2⟩
theorem zW_good {w : Jvm.Cond} (h : w ∈ zW) : goodWord w = true := (List.mem_filter.mp h).2
theorem zW_GoodIn {ws : List Jvm.Cond} (h : ∀ w ∈ ws, w ∈ zW) : GoodIn zW ws := fun w hw => ⟨h w hw, good_of_word (zW_good (h w hw))⟩
/-- (class of the method, index, kind, field) -/
def zFTab : List (Nat × Nat × Nat × Nat) := [(6, 9, 7, 1), (6, 48, 7, 2), (6, 63, 7, 0), (8, 7, 7, 0), (11, 7, 0, 0), (11, 13, 0, 1), (11, 17, 0, 2), (11, 20, 0, 3), (11, 23, 0, 6), (11, 26, 0, 4), (11, 29, 0, 5), (11, 32, 0, 7), (12, 9, 1, 0), (12, 15, 1, 1), (12, 19, 1, 2), (12, 26, 1, 3), (12, 30, 1, 4), (12, 33, 1, 5), (12, 37, 1, 6), (12, 40, 1, 7), (12, 43, 1, 8), (12, 46, 1, 9), (13, 9, 2, 0), (13, 15, 2, 1), (13, 18, 2, 2), (13, 21, 2, 3), (13, 27, 2, 4), (13, 30, 2, 5), (13, 34, 2, 6), (13, 37, 2, 7), (13, 40, 2, 8), (13, 43, 2, 9), (13, 46, 2, 10), (13, 61, 0, 1), (13, 68, 0, 0), (13, 71, 0, 2), (13, 74, 0, 3), (14, 9, 3, 0), (14, 15, 3, 1), (14, 19, 3, 2), (15, 9, 4, 0), (15, 15, 4, 1), (15, 18, 4, 2), (15, 21, 4, 3), (16, 12, 5, 0), (16, 16, 5, 1), (16, 22, 5, 2), (16, 26, 5, 3), (16, 32, 5, 4), (16, 36, 5, 5), (16, 40, 5, 6), (16, 44, 5, 7), (16, 90, 0, 6), (16, 134, 1, 4), (16, 143, 1, 3), (16, 153, 1, 0), (16, 157, 0, 0), (16, 163, 1, 5), (16, 170, 1, 8), (16, 173, 1, 9), (16, 176, 1, 6), (16, 182, 1, 7), (16, 185, 4, 3), (16, 254, 2, 3), (16, 292, 0, 7), (16, 314, 0, 1), (16, 358, 0, 2), (16, 361, 1, 1), (16, 365, 1, 2), (16, 379, 0, 3), (17, 9, 6, 0), (17, 13, 6, 1), (17, 16, 6, 2), (17, 19, 6, 3), (17, 22, 6, 4), (17, 25, 6, 5), (17, 29, 6, 6), (17, 33, 6, 9), (17, 36, 6, 10), (17, 39, 6, 11), (17, 42, 6, 12), (17, 48, 6, 13), (17, 51, 6, 14), (17, 54, 6, 17), (17, 57, 6, 18), (17, 60, 6, 19), (17, 63, 6, 20), (17, 66, 6, 22), (17, 69, 6, 23), (17, 72, 6, 24), (17, 75, 6, 25), (17, 78, 6, 28), (17, 81, 6, 29), (17, 84, 6, 32), (17, 92, 6, 7), (17, 95, 6, 8), (17, 109, 6, 15), (17, 125, 6, 16), (17, 131, 6, 26), (17, 150, 6, 27), (17, 171, 6, 21), (17, 230, 6, 30), (17, 233, 6, 31)]
def zFq (ci : Nat) : vw_C := zcl.getD ci ("", TX0, 0)
def zFOK (own : String) (idx ci k : Nat) : Prop := zcl[ci]? = some (zFq ci) ∧ k < (zFq ci).2.2 ∧ ∃ ref : String, (Cond.fieldLink own idx ref ((zFq ci).2.1 k).2.1 ((zFq ci).2.1 k).2.2.1 : Jvm.Cond) ∈ zW ∧ (ref = ((zFq ci).2.1 k).1 ∨ (Cond.sameField ref ((zFq ci).2.1 k).1 ((zFq ci).2.1 k).2.1 ((zFq ci).2.1 k).2.2.1 : Jvm.Cond) ∈ zW)
set_option maxRecDepth 20000 in
theorem zFTab_ok : ∀ x ∈ zFTab, zFOK (zOwn.getD x.1 "") x.2.1 x.2.2.1 x.2.2.2 := by
  unfold zFTab
  refine List.forall_mem_cons.mpr ⟨⟨rfl, by decide, "java/util/ArrayList", zW_in 112 (by rfl) (by rfl), Or.inl rfl⟩, ?_⟩
  refine List.forall_mem_cons.mpr ⟨⟨rfl, by decide, "java/util/ArrayList", zW_in 113 (by rfl) (by rfl), Or.inl rfl⟩, ?_⟩
  refine List.forall_mem_cons.mpr ⟨⟨rfl, by decide, "java/util/ArrayList", zW_in 115 (by rfl) (by rfl), Or.inr (zW_in 116 (by rfl) (by rfl))⟩, ?_⟩
  refine List.forall_mem_cons.mpr ⟨⟨rfl, by decide, "java/util/AbstractList", zW_in 114 (by rfl) (by rfl), Or.inl rfl⟩, ?_⟩
  refine List.forall_mem_cons.mpr ⟨⟨rfl, by decide, "PlayoutChain$Clip", zW_in 500 (by rfl) (by rfl), Or.inl rfl⟩, ?_⟩
  refine List.forall_mem_cons.mpr ⟨⟨rfl, by decide, "PlayoutChain$Clip", zW_in 503 (by rfl) (by rfl), Or.inl rfl⟩, ?_⟩
  refine List.forall_mem_cons.mpr ⟨⟨rfl, by decide, "PlayoutChain$Clip", zW_in 506 (by rfl) (by rfl), Or.inl rfl⟩, ?_⟩
  refine List.forall_mem_cons.mpr ⟨⟨rfl, by decide, "PlayoutChain$Clip", zW_in 509 (by rfl) (by rfl), Or.inl rfl⟩, ?_⟩
  refine List.forall_mem_cons.mpr ⟨⟨rfl, by decide, "PlayoutChain$Clip", zW_in 514 (by rfl) (by rfl), Or.inl rfl⟩, ?_⟩
  refine List.forall_mem_cons.mpr ⟨⟨rfl, by decide, "PlayoutChain$Clip", zW_in 512 (by rfl) (by rfl), Or.inl rfl⟩, ?_⟩
  refine List.forall_mem_cons.mpr ⟨⟨rfl, by decide, "PlayoutChain$Clip", zW_in 513 (by rfl) (by rfl), Or.inl rfl⟩, ?_⟩
  refine List.forall_mem_cons.mpr ⟨⟨rfl, by decide, "PlayoutChain$Clip", zW_in 516 (by rfl) (by rfl), Or.inl rfl⟩, ?_⟩
  refine List.forall_mem_cons.mpr ⟨⟨rfl, by decide, "PlayoutChain$Event", zW_in 690 (by rfl) (by rfl), Or.inl rfl⟩, ?_⟩
  refine List.forall_mem_cons.mpr ⟨⟨rfl, by decide, "PlayoutChain$Event", zW_in 692 (by rfl) (by rfl), Or.inl rfl⟩, ?_⟩
  refine List.forall_mem_cons.mpr ⟨⟨rfl, by decide, "PlayoutChain$Event", zW_in 694 (by rfl) (by rfl), Or.inl rfl⟩, ?_⟩
  refine List.forall_mem_cons.mpr ⟨⟨rfl, by decide, "PlayoutChain$Event", zW_in 696 (by rfl) (by rfl), Or.inl rfl⟩, ?_⟩
  refine List.forall_mem_cons.mpr ⟨⟨rfl, by decide, "PlayoutChain$Event", zW_in 698 (by rfl) (by rfl), Or.inl rfl⟩, ?_⟩
  refine List.forall_mem_cons.mpr ⟨⟨rfl, by decide, "PlayoutChain$Event", zW_in 700 (by rfl) (by rfl), Or.inl rfl⟩, ?_⟩
  refine List.forall_mem_cons.mpr ⟨⟨rfl, by decide, "PlayoutChain$Event", zW_in 702 (by rfl) (by rfl), Or.inl rfl⟩, ?_⟩
  refine List.forall_mem_cons.mpr ⟨⟨rfl, by decide, "PlayoutChain$Event", zW_in 704 (by rfl) (by rfl), Or.inl rfl⟩, ?_⟩
  refine List.forall_mem_cons.mpr ⟨⟨rfl, by decide, "PlayoutChain$Event", zW_in 706 (by rfl) (by rfl), Or.inl rfl⟩, ?_⟩
  refine List.forall_mem_cons.mpr ⟨⟨rfl, by decide, "PlayoutChain$Event", zW_in 708 (by rfl) (by rfl), Or.inl rfl⟩, ?_⟩
  refine List.forall_mem_cons.mpr ⟨⟨rfl, by decide, "PlayoutChain$Filler", zW_in 153 (by rfl) (by rfl), Or.inl rfl⟩, ?_⟩
  refine List.forall_mem_cons.mpr ⟨⟨rfl, by decide, "PlayoutChain$Filler", zW_in 154 (by rfl) (by rfl), Or.inl rfl⟩, ?_⟩
  refine List.forall_mem_cons.mpr ⟨⟨rfl, by decide, "PlayoutChain$Filler", zW_in 155 (by rfl) (by rfl), Or.inl rfl⟩, ?_⟩
  refine List.forall_mem_cons.mpr ⟨⟨rfl, by decide, "PlayoutChain$Filler", zW_in 156 (by rfl) (by rfl), Or.inl rfl⟩, ?_⟩
  refine List.forall_mem_cons.mpr ⟨⟨rfl, by decide, "PlayoutChain$Filler", zW_in 158 (by rfl) (by rfl), Or.inl rfl⟩, ?_⟩
  refine List.forall_mem_cons.mpr ⟨⟨rfl, by decide, "PlayoutChain$Filler", zW_in 159 (by rfl) (by rfl), Or.inl rfl⟩, ?_⟩
  refine List.forall_mem_cons.mpr ⟨⟨rfl, by decide, "PlayoutChain$Filler", zW_in 160 (by rfl) (by rfl), Or.inl rfl⟩, ?_⟩
  refine List.forall_mem_cons.mpr ⟨⟨rfl, by decide, "PlayoutChain$Filler", zW_in 161 (by rfl) (by rfl), Or.inl rfl⟩, ?_⟩
  refine List.forall_mem_cons.mpr ⟨⟨rfl, by decide, "PlayoutChain$Filler", zW_in 162 (by rfl) (by rfl), Or.inl rfl⟩, ?_⟩
  refine List.forall_mem_cons.mpr ⟨⟨rfl, by decide, "PlayoutChain$Filler", zW_in 163 (by rfl) (by rfl), Or.inl rfl⟩, ?_⟩
  refine List.forall_mem_cons.mpr ⟨⟨rfl, by decide, "PlayoutChain$Filler", zW_in 164 (by rfl) (by rfl), Or.inl rfl⟩, ?_⟩
  refine List.forall_mem_cons.mpr ⟨⟨rfl, by decide, "PlayoutChain$Clip", zW_in 504 (by rfl) (by rfl), Or.inl rfl⟩, ?_⟩
  refine List.forall_mem_cons.mpr ⟨⟨rfl, by decide, "PlayoutChain$Clip", zW_in 501 (by rfl) (by rfl), Or.inl rfl⟩, ?_⟩
  refine List.forall_mem_cons.mpr ⟨⟨rfl, by decide, "PlayoutChain$Clip", zW_in 507 (by rfl) (by rfl), Or.inl rfl⟩, ?_⟩
  refine List.forall_mem_cons.mpr ⟨⟨rfl, by decide, "PlayoutChain$Clip", zW_in 510 (by rfl) (by rfl), Or.inl rfl⟩, ?_⟩
  refine List.forall_mem_cons.mpr ⟨⟨rfl, by decide, "PlayoutChain$Secondary", zW_in 1035 (by rfl) (by rfl), Or.inl rfl⟩, ?_⟩
  refine List.forall_mem_cons.mpr ⟨⟨rfl, by decide, "PlayoutChain$Secondary", zW_in 1036 (by rfl) (by rfl), Or.inl rfl⟩, ?_⟩
  refine List.forall_mem_cons.mpr ⟨⟨rfl, by decide, "PlayoutChain$Secondary", zW_in 1037 (by rfl) (by rfl), Or.inl rfl⟩, ?_⟩
  refine List.forall_mem_cons.mpr ⟨⟨rfl, by decide, "PlayoutChain$Timeline", zW_in 130 (by rfl) (by rfl), Or.inl rfl⟩, ?_⟩
  refine List.forall_mem_cons.mpr ⟨⟨rfl, by decide, "PlayoutChain$Timeline", zW_in 131 (by rfl) (by rfl), Or.inl rfl⟩, ?_⟩
  refine List.forall_mem_cons.mpr ⟨⟨rfl, by decide, "PlayoutChain$Timeline", zW_in 132 (by rfl) (by rfl), Or.inl rfl⟩, ?_⟩
  refine List.forall_mem_cons.mpr ⟨⟨rfl, by decide, "PlayoutChain$Timeline", zW_in 133 (by rfl) (by rfl), Or.inl rfl⟩, ?_⟩
  refine List.forall_mem_cons.mpr ⟨⟨rfl, by decide, "PlayoutChain", zW_in 189 (by rfl) (by rfl), Or.inl rfl⟩, ?_⟩
  refine List.forall_mem_cons.mpr ⟨⟨rfl, by decide, "PlayoutChain", zW_in 190 (by rfl) (by rfl), Or.inl rfl⟩, ?_⟩
  refine List.forall_mem_cons.mpr ⟨⟨rfl, by decide, "PlayoutChain", zW_in 191 (by rfl) (by rfl), Or.inl rfl⟩, ?_⟩
  refine List.forall_mem_cons.mpr ⟨⟨rfl, by decide, "PlayoutChain", zW_in 192 (by rfl) (by rfl), Or.inl rfl⟩, ?_⟩
  refine List.forall_mem_cons.mpr ⟨⟨rfl, by decide, "PlayoutChain", zW_in 193 (by rfl) (by rfl), Or.inl rfl⟩, ?_⟩
  refine List.forall_mem_cons.mpr ⟨⟨rfl, by decide, "PlayoutChain", zW_in 194 (by rfl) (by rfl), Or.inl rfl⟩, ?_⟩
  refine List.forall_mem_cons.mpr ⟨⟨rfl, by decide, "PlayoutChain", zW_in 195 (by rfl) (by rfl), Or.inl rfl⟩, ?_⟩
  refine List.forall_mem_cons.mpr ⟨⟨rfl, by decide, "PlayoutChain", zW_in 196 (by rfl) (by rfl), Or.inl rfl⟩, ?_⟩
  refine List.forall_mem_cons.mpr ⟨⟨rfl, by decide, "PlayoutChain$Clip", zW_in 515 (by rfl) (by rfl), Or.inl rfl⟩, ?_⟩
  refine List.forall_mem_cons.mpr ⟨⟨rfl, by decide, "PlayoutChain$Event", zW_in 699 (by rfl) (by rfl), Or.inl rfl⟩, ?_⟩
  refine List.forall_mem_cons.mpr ⟨⟨rfl, by decide, "PlayoutChain$Event", zW_in 697 (by rfl) (by rfl), Or.inl rfl⟩, ?_⟩
  refine List.forall_mem_cons.mpr ⟨⟨rfl, by decide, "PlayoutChain$Event", zW_in 691 (by rfl) (by rfl), Or.inl rfl⟩, ?_⟩
  refine List.forall_mem_cons.mpr ⟨⟨rfl, by decide, "PlayoutChain$Clip", zW_in 502 (by rfl) (by rfl), Or.inl rfl⟩, ?_⟩
  refine List.forall_mem_cons.mpr ⟨⟨rfl, by decide, "PlayoutChain$Event", zW_in 701 (by rfl) (by rfl), Or.inl rfl⟩, ?_⟩
  refine List.forall_mem_cons.mpr ⟨⟨rfl, by decide, "PlayoutChain$Event", zW_in 707 (by rfl) (by rfl), Or.inl rfl⟩, ?_⟩
  refine List.forall_mem_cons.mpr ⟨⟨rfl, by decide, "PlayoutChain$Event", zW_in 709 (by rfl) (by rfl), Or.inl rfl⟩, ?_⟩
  refine List.forall_mem_cons.mpr ⟨⟨rfl, by decide, "PlayoutChain$Event", zW_in 703 (by rfl) (by rfl), Or.inl rfl⟩, ?_⟩
  refine List.forall_mem_cons.mpr ⟨⟨rfl, by decide, "PlayoutChain$Event", zW_in 705 (by rfl) (by rfl), Or.inl rfl⟩, ?_⟩
  refine List.forall_mem_cons.mpr ⟨⟨rfl, by decide, "PlayoutChain$Timeline", zW_in 134 (by rfl) (by rfl), Or.inl rfl⟩, ?_⟩
  refine List.forall_mem_cons.mpr ⟨⟨rfl, by decide, "PlayoutChain$Filler", zW_in 157 (by rfl) (by rfl), Or.inl rfl⟩, ?_⟩
  refine List.forall_mem_cons.mpr ⟨⟨rfl, by decide, "PlayoutChain$Clip", zW_in 517 (by rfl) (by rfl), Or.inl rfl⟩, ?_⟩
  refine List.forall_mem_cons.mpr ⟨⟨rfl, by decide, "PlayoutChain$Clip", zW_in 505 (by rfl) (by rfl), Or.inl rfl⟩, ?_⟩
  refine List.forall_mem_cons.mpr ⟨⟨rfl, by decide, "PlayoutChain$Clip", zW_in 508 (by rfl) (by rfl), Or.inl rfl⟩, ?_⟩
  refine List.forall_mem_cons.mpr ⟨⟨rfl, by decide, "PlayoutChain$Event", zW_in 693 (by rfl) (by rfl), Or.inl rfl⟩, ?_⟩
  refine List.forall_mem_cons.mpr ⟨⟨rfl, by decide, "PlayoutChain$Event", zW_in 695 (by rfl) (by rfl), Or.inl rfl⟩, ?_⟩
  refine List.forall_mem_cons.mpr ⟨⟨rfl, by decide, "PlayoutChain$Clip", zW_in 511 (by rfl) (by rfl), Or.inl rfl⟩, ?_⟩
  refine List.forall_mem_cons.mpr ⟨⟨rfl, by decide, "PlayoutChainModel", zW_in 1334 (by rfl) (by rfl), Or.inl rfl⟩, ?_⟩
  refine List.forall_mem_cons.mpr ⟨⟨rfl, by decide, "PlayoutChainModel", zW_in 1335 (by rfl) (by rfl), Or.inl rfl⟩, ?_⟩
  refine List.forall_mem_cons.mpr ⟨⟨rfl, by decide, "PlayoutChainModel", zW_in 1336 (by rfl) (by rfl), Or.inl rfl⟩, ?_⟩
  refine List.forall_mem_cons.mpr ⟨⟨rfl, by decide, "PlayoutChainModel", zW_in 1337 (by rfl) (by rfl), Or.inl rfl⟩, ?_⟩
  refine List.forall_mem_cons.mpr ⟨⟨rfl, by decide, "PlayoutChainModel", zW_in 1338 (by rfl) (by rfl), Or.inl rfl⟩, ?_⟩
  refine List.forall_mem_cons.mpr ⟨⟨rfl, by decide, "PlayoutChainModel", zW_in 1339 (by rfl) (by rfl), Or.inl rfl⟩, ?_⟩
  refine List.forall_mem_cons.mpr ⟨⟨rfl, by decide, "PlayoutChainModel", zW_in 1340 (by rfl) (by rfl), Or.inl rfl⟩, ?_⟩
  refine List.forall_mem_cons.mpr ⟨⟨rfl, by decide, "PlayoutChainModel", zW_in 1343 (by rfl) (by rfl), Or.inl rfl⟩, ?_⟩
  refine List.forall_mem_cons.mpr ⟨⟨rfl, by decide, "PlayoutChainModel", zW_in 1344 (by rfl) (by rfl), Or.inl rfl⟩, ?_⟩
  refine List.forall_mem_cons.mpr ⟨⟨rfl, by decide, "PlayoutChainModel", zW_in 1345 (by rfl) (by rfl), Or.inl rfl⟩, ?_⟩
  refine List.forall_mem_cons.mpr ⟨⟨rfl, by decide, "PlayoutChainModel", zW_in 1346 (by rfl) (by rfl), Or.inl rfl⟩, ?_⟩
  refine List.forall_mem_cons.mpr ⟨⟨rfl, by decide, "PlayoutChainModel", zW_in 1347 (by rfl) (by rfl), Or.inl rfl⟩, ?_⟩
  refine List.forall_mem_cons.mpr ⟨⟨rfl, by decide, "PlayoutChainModel", zW_in 1348 (by rfl) (by rfl), Or.inl rfl⟩, ?_⟩
  refine List.forall_mem_cons.mpr ⟨⟨rfl, by decide, "PlayoutChainModel", zW_in 1351 (by rfl) (by rfl), Or.inl rfl⟩, ?_⟩
  refine List.forall_mem_cons.mpr ⟨⟨rfl, by decide, "PlayoutChainModel", zW_in 1352 (by rfl) (by rfl), Or.inl rfl⟩, ?_⟩
  refine List.forall_mem_cons.mpr ⟨⟨rfl, by decide, "PlayoutChainModel", zW_in 1353 (by rfl) (by rfl), Or.inl rfl⟩, ?_⟩
  refine List.forall_mem_cons.mpr ⟨⟨rfl, by decide, "PlayoutChainModel", zW_in 1354 (by rfl) (by rfl), Or.inl rfl⟩, ?_⟩
  refine List.forall_mem_cons.mpr ⟨⟨rfl, by decide, "PlayoutChainModel", zW_in 1356 (by rfl) (by rfl), Or.inl rfl⟩, ?_⟩
  refine List.forall_mem_cons.mpr ⟨⟨rfl, by decide, "PlayoutChainModel", zW_in 1357 (by rfl) (by rfl), Or.inl rfl⟩, ?_⟩
  refine List.forall_mem_cons.mpr ⟨⟨rfl, by decide, "PlayoutChainModel", zW_in 1358 (by rfl) (by rfl), Or.inl rfl⟩, ?_⟩
  refine List.forall_mem_cons.mpr ⟨⟨rfl, by decide, "PlayoutChainModel", zW_in 1359 (by rfl) (by rfl), Or.inl rfl⟩, ?_⟩
  refine List.forall_mem_cons.mpr ⟨⟨rfl, by decide, "PlayoutChainModel", zW_in 1362 (by rfl) (by rfl), Or.inl rfl⟩, ?_⟩
  refine List.forall_mem_cons.mpr ⟨⟨rfl, by decide, "PlayoutChainModel", zW_in 1363 (by rfl) (by rfl), Or.inl rfl⟩, ?_⟩
  refine List.forall_mem_cons.mpr ⟨⟨rfl, by decide, "PlayoutChainModel", zW_in 1366 (by rfl) (by rfl), Or.inl rfl⟩, ?_⟩
  refine List.forall_mem_cons.mpr ⟨⟨rfl, by decide, "PlayoutChainModel", zW_in 1341 (by rfl) (by rfl), Or.inl rfl⟩, ?_⟩
  refine List.forall_mem_cons.mpr ⟨⟨rfl, by decide, "PlayoutChainModel", zW_in 1342 (by rfl) (by rfl), Or.inl rfl⟩, ?_⟩
  refine List.forall_mem_cons.mpr ⟨⟨rfl, by decide, "PlayoutChainModel", zW_in 1349 (by rfl) (by rfl), Or.inl rfl⟩, ?_⟩
  refine List.forall_mem_cons.mpr ⟨⟨rfl, by decide, "PlayoutChainModel", zW_in 1350 (by rfl) (by rfl), Or.inl rfl⟩, ?_⟩
  refine List.forall_mem_cons.mpr ⟨⟨rfl, by decide, "PlayoutChainModel", zW_in 1360 (by rfl) (by rfl), Or.inl rfl⟩, ?_⟩
  refine List.forall_mem_cons.mpr ⟨⟨rfl, by decide, "PlayoutChainModel", zW_in 1361 (by rfl) (by rfl), Or.inl rfl⟩, ?_⟩
  refine List.forall_mem_cons.mpr ⟨⟨rfl, by decide, "PlayoutChainModel", zW_in 1355 (by rfl) (by rfl), Or.inl rfl⟩, ?_⟩
  refine List.forall_mem_cons.mpr ⟨⟨rfl, by decide, "PlayoutChainModel", zW_in 1364 (by rfl) (by rfl), Or.inl rfl⟩, ?_⟩
  refine List.forall_mem_cons.mpr ⟨⟨rfl, by decide, "PlayoutChainModel", zW_in 1365 (by rfl) (by rfl), Or.inl rfl⟩, ?_⟩
  exact fun x h => absurd h List.not_mem_nil
def zNTab : List (Nat × Nat × Nat) := [(10, 8, 5), (10, 125, 6), (12, 23, 7), (16, 9, 7), (16, 19, 4), (16, 29, 2), (16, 65, 0), (16, 106, 1), (16, 148, 3)]
def zNOK (own : String) (idx ci : Nat) : Prop := zcl[ci]? = some (zFq ci) ∧ (Cond.classLink own idx (zFq ci).1 : Jvm.Cond) ∈ zW ∧ (Cond.instantiable (zFq ci).1 (zFq ci).2.2 : Jvm.Cond) ∈ zW ∧ (Cond.initialized (zFq ci).1 : Jvm.Cond) ∈ zW
set_option maxRecDepth 20000 in
theorem zNTab_ok : ∀ x ∈ zNTab, zNOK (zOwn.getD x.1 "") x.2.1 x.2.2 := by
  unfold zNTab
  refine List.forall_mem_cons.mpr ⟨⟨rfl, zW_in 90 (by rfl) (by rfl), zW_in 91 (by rfl) (by rfl), zW_in 58 (by rfl) (by rfl)⟩, ?_⟩
  refine List.forall_mem_cons.mpr ⟨⟨rfl, zW_in 1326 (by rfl) (by rfl), zW_in 1327 (by rfl) (by rfl), zW_in 64 (by rfl) (by rfl)⟩, ?_⟩
  refine List.forall_mem_cons.mpr ⟨⟨rfl, zW_in 688 (by rfl) (by rfl), zW_in 99 (by rfl) (by rfl), zW_in 61 (by rfl) (by rfl)⟩, ?_⟩
  refine List.forall_mem_cons.mpr ⟨⟨rfl, zW_in 98 (by rfl) (by rfl), zW_in 99 (by rfl) (by rfl), zW_in 61 (by rfl) (by rfl)⟩, ?_⟩
  refine List.forall_mem_cons.mpr ⟨⟨rfl, zW_in 124 (by rfl) (by rfl), zW_in 125 (by rfl) (by rfl), zW_in 62 (by rfl) (by rfl)⟩, ?_⟩
  refine List.forall_mem_cons.mpr ⟨⟨rfl, zW_in 145 (by rfl) (by rfl), zW_in 146 (by rfl) (by rfl), zW_in 63 (by rfl) (by rfl)⟩, ?_⟩
  refine List.forall_mem_cons.mpr ⟨⟨rfl, zW_in 494 (by rfl) (by rfl), zW_in 495 (by rfl) (by rfl), zW_in 70 (by rfl) (by rfl)⟩, ?_⟩
  refine List.forall_mem_cons.mpr ⟨⟨rfl, zW_in 252 (by rfl) (by rfl), zW_in 683 (by rfl) (by rfl), zW_in 79 (by rfl) (by rfl)⟩, ?_⟩
  refine List.forall_mem_cons.mpr ⟨⟨rfl, zW_in 1029 (by rfl) (by rfl), zW_in 1030 (by rfl) (by rfl), zW_in 87 (by rfl) (by rfl)⟩, ?_⟩
  exact fun x h => absurd h List.not_mem_nil
def zKTab : List (Nat × Nat × Nat) := [(12, 63, 3), (13, 59, 0), (16, 65, 0), (16, 106, 1), (16, 148, 3)]
def zKOK (own : String) (idx ci : Nat) : Prop := zcl[ci]? = some (zFq ci) ∧ (Cond.classLink own idx (zFq ci).1 : Jvm.Cond) ∈ zW
set_option maxRecDepth 20000 in
theorem zKTab_ok : ∀ x ∈ zKTab, zKOK (zOwn.getD x.1 "") x.2.1 x.2.2 := by
  unfold zKTab
  refine List.forall_mem_cons.mpr ⟨⟨rfl, zW_in 1161 (by rfl) (by rfl)⟩, ?_⟩
  refine List.forall_mem_cons.mpr ⟨⟨rfl, zW_in 613 (by rfl) (by rfl)⟩, ?_⟩
  refine List.forall_mem_cons.mpr ⟨⟨rfl, zW_in 494 (by rfl) (by rfl)⟩, ?_⟩
  refine List.forall_mem_cons.mpr ⟨⟨rfl, zW_in 252 (by rfl) (by rfl)⟩, ?_⟩
  refine List.forall_mem_cons.mpr ⟨⟨rfl, zW_in 1029 (by rfl) (by rfl)⟩, ?_⟩
  exact fun x h => absurd h List.not_mem_nil
def zLTab : List (Nat × Nat × Nat × Nat) := [(2, 265, 0, 1431655765), (2, 266, 0, 858993459), (2, 267, 0, 252645135), (4, 200, 0, 2147483639), (5, 134, 0, 2147483647), (9, 77, 0, 2143289344), (16, 386, 1, 1258291200)]
def zCOK (own : String) (idx s v : Nat) : Prop := if s = 0 then (Cond.constant own idx (Int32.ofNat v) : Jvm.Cond) ∈ zW else (Cond.constantFloat own idx (UInt32.ofNat v) : Jvm.Cond) ∈ zW
set_option maxRecDepth 20000 in
theorem zLTab_ok : ∀ x ∈ zLTab, zCOK (zOwn.getD x.1 "") x.2.1 x.2.2.1 x.2.2.2 := by
  unfold zLTab
  refine List.forall_mem_cons.mpr ⟨zW_in 1229 (by rfl) (by rfl), ?_⟩
  refine List.forall_mem_cons.mpr ⟨zW_in 1230 (by rfl) (by rfl), ?_⟩
  refine List.forall_mem_cons.mpr ⟨zW_in 1231 (by rfl) (by rfl), ?_⟩
  refine List.forall_mem_cons.mpr ⟨zW_in 557 (by rfl) (by rfl), ?_⟩
  refine List.forall_mem_cons.mpr ⟨zW_in 1538 (by rfl) (by rfl), ?_⟩
  refine List.forall_mem_cons.mpr ⟨zW_in 1674 (by rfl) (by rfl), ?_⟩
  refine List.forall_mem_cons.mpr ⟨zW_in 1209 (by rfl) (by rfl), ?_⟩
  exact fun x h => absurd h List.not_mem_nil
