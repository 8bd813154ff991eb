/-! ===== the tables against the claim (by wip/whole/gen_valid.py) ===== -/
def o_nameL : List String := [RX0, RX1, RX2, RX3, RX4, RX5, RX6, RX7, RX8, RX10, RX11, RX9, RL, RJ6, RJ0, RJ1, RJ2, RJ3, RJ9]
def o_name (o : Nat) : String := o_nameL.getD o ""
def m_nameL_0 : List (MethodName) := [yX0_init, yX0_copyFrom, yX0_isFull, yX0_insert, yX0_isAhead, yX0_removeEnded, yX0_byFirstDue, yX0_rankByFirstDue, yX0_wholeLists, yX0_hasCorrection, yX1_init, yX1_keep, yX1_takeBack, yX1_forget, yX2_init, yX2_copyFrom, yX2_reset, yX2_isInGap, yX2_putGap, yX2_removeGap, yX2_hear, yX2_takeList, yX3_init, yX3_collect, yX3_insertRow, yX3_isAhead, yX3_join, yX3_property, yX4_init, yX4_copyFrom, yX4_reset, yX4_listOf, yX4_publishLatest, yX4_sendCorrection, yX4_sendWhole, yX4_send, yX4_passTicks, yX4_passTick, yX4_hearWhatIsDue, yX4_noteHeard, yX4_knows, yX4_misses, yX4_numbersHeard, yX4_numbersMissed, yX4_numbersBehind, yX4_differing, yX4_isPublished, yX4_minutesWrong, yX4_sameListeners, yX4_allDropped, yX4_allUnheard, yX4_ticksUntilSame, yX5_init, yX5_hasRoom, yX5_takeIn, yX5_parse, yX5_parseStop, yX5_parseListener, yX5_parseGap, yX5_fail, yX5_takeWord, yX5_takeSemicolon, yX5_takeNumber, yX5_isWord, yX5_advance, yX5_isLetter, yX5_isDigit, yX6_init, yX6_copyFrom, yX6_isWhole, yX6_begin, yX6_setDue, yX6_stillToHear, yX7_init, yX7_clear, yX7_put, yX7_putNumber, yX7_putRun, yX8_init, yX8_copyFrom]
def m_nameL_1 : List (MethodName) := [yX8_reset, yX8_setRow, yX8_setFree, yX8_tellNext, yX8_rowOf, yX8_property, yX8_covers, yX8_isAlike, yX8_stopsIn, yX8_differences, yX10_init, yX10_append, yX10_load, yX10_parseError, yX10_errorPosition, yX10_buffered, yX10_count, yX10_stop, yX10_onAir, yX10_number, yX10_minutes, yX10_stands, yX10_nextAt, yX10_clashes, yX10_merged, yX10_mergedStop, yX10_listener, yX10_gap, yX10_hasHeard, yX10_missing, yX10_isSame, yX10_wrongMinutes, yX10_worst, yX10_behind, yX10_overtakes, yX10_sameIn, yX10_allSameIn, yX10_heardIn, yX10_missingIn, yX10_wrongIn, yX10_quietIn, yX10_wholeIn, yX10_sameWithout, yX10_sameWith, yX10_bestPeriod, yX10_sameShare, yX10_meanBehind, yX10_writeDay, yX10_writeMissing, yX10_textByte, yX10_correct, yX10_cancel, yX10_repeat, yX10_whole, yX10_tick, yX10_addGap, yX10_dropGap, yX10_setDelay, yX10_setPeriod, yX10_fetch, yX10_undo, yX10_undoable, yX10_save, yX10_restore, yX10_needRadio, yX10_needListener, yX10_needList, yX10_needSlot, yX10_needSavingSlot, yX10_needBetween, yX10_needCorrection, yX10_needNumberLeft, yX10_needRoomOnAir, yX11_init, yX11_thrown, yX11_in, yX11_flag, yX11_refuse, yX11_notLoaded, yX11_noListener]
def m_nameL_2 : List (MethodName) := [yX11_noList, yX11_isSlot, yX11_isDay, yX11_copies, yX11_slotOf, yX11_of, yX11_ofListener, yX11_putsListener, yX11_grows, yX11_ofAir, yX11_ofNumber, yX11_isNumber, yX11_hasHeardIt, yX11_isFree, yX11_laysSlot, yX11_append, yX11_buffered, yX11_parseError, yX11_errorPosition, yX11_seen, yX11_isSmall, yX11_isDigit, yX11_token, yX11_fails, yX11_failsIf, yX11_goesOn, yX11_isWord, yX11_takes, yX11_stopLine, yX11_hearsLine, yX11_reads, yX11_load, yX11_hasRoom, yX11_airs, yX11_firstDue, yX11_rank, yX11_isAhead, yX11_airAt, yX11_stillTo, yX11_clears, yX11_isOff, yX11_hearsNumber, yX11_hearsCorrection, yX11_hearsWhole, yX11_hears, yX11_nextDue, yX11_listens, yX11_ticks, yX11_ticksAll, yX11_areAlike, yX11_differing, yX11_sameOnes, yX11_stopsNow, yX11_onAirOf, yX11_sumOf, yX11_count, yX11_stop, yX11_onAir, yX11_heardBy, yX11_isOnAir, yX11_number, yX11_covers, yX11_standsAt, yX11_minutes, yX11_noMinute, yX11_stands, yX11_nextAt, yX11_isClash, yX11_clashes, yX11_comesAhead, yX11_drops, yX11_puts, yX11_merges, yX11_noDay, yX11_merged, yX11_mergedStop, yX11_misses, yX11_missed, yX11_heardOnes, yX11_listener]
def m_nameL_3 : List (MethodName) := [yX11_gap, yX11_hasHeard, yX11_missing, yX11_isSame, yX11_wrongOnes, yX11_wrongMinutes, yX11_worst, yX11_behindOf, yX11_behind, yX11_lastDue, yX11_overtakes, yX11_tries, yX11_back, yX11_sameNow, yX11_sameIn, yX11_allSameNow, yX11_allSameIn, yX11_heardNow, yX11_heardIn, yX11_noTicks, yX11_missingIn, yX11_wrongIn, yX11_quietNow, yX11_quietIn, yX11_wholeIn, yX11_sameWithout, yX11_sameBy, yX11_sameWith, yX11_bestPeriod, yX11_sameShare, yX11_meanBehind, yX11_says, yX11_saysNumber, yX11_writeDay, yX11_writeMissing, yX11_textByte, yX11_keepsAll, yX11_isLength, yX11_canPublish, yX11_publishes, yX11_isStop, yX11_correct, yX11_cancel, yX11_repeat, yX11_whole, yX11_tick, yX11_addGap, yX11_dropGap, yX11_setDelay, yX11_setPeriod, yX11_fetch, yX11_undo, yX11_undoable, yX11_save, yX11_restore, yX9_placeAt, yX9_nextEdge, yX9_minutesAt, yX9_minutesApart, yX9_firstMinute, yX9_clashing, yX9_isClash, yL_load, yL_count, yL_stop, yL_onAir, yL_number, yL_minutes, yL_stands, yL_nextAt, yL_clashes, yL_merged, yL_mergedStop, yL_listener, yL_gap, yL_hasHeard, yL_missing, yL_isSame, yL_wrongMinutes, yL_worst]
def m_nameL_4 : List (MethodName) := [yL_behind, yL_overtakes, yL_sameIn, yL_allSameIn, yL_heardIn, yL_missingIn, yL_wrongIn, yL_quietIn, yL_wholeIn, yL_sameWithout, yL_sameWith, yL_bestPeriod, yL_sameShare, yL_meanBehind, yL_writeDay, yL_writeMissing, yL_textByte, yL_correct, yL_cancel, yL_repeat, yL_whole, yL_tick, yL_addGap, yL_dropGap, yL_setDelay, yL_setPeriod, yL_fetch, yL_undo, yL_save, yL_restore, yL_law, yJ6_bitCount_0f7a4, yJ0_length_8abf5, yJ0_charAt_5068e, yJ0_coder_7d493, yJ0_isLatin1_aae02, yJ0_checkIndex_df160, yJ1_charAt_3b067, yJ3_checkIndex_8e157]
def m_nameL : List (MethodName) := m_nameL_0 ++ (m_nameL_1 ++ (m_nameL_2 ++ (m_nameL_3 ++ (m_nameL_4))))
def m_bytesL_0 : List (ByteArray) := [cX0_init, cX0_copyFrom, cX0_isFull, cX0_insert, cX0_isAhead, cX0_removeEnded, cX0_byFirstDue, cX0_rankByFirstDue, cX0_wholeLists, cX0_hasCorrection, cX1_init, cX1_keep, cX1_takeBack, cX1_forget, cX2_init, cX2_copyFrom, cX2_reset, cX2_isInGap, cX2_putGap, cX2_removeGap, cX2_hear, cX2_takeList, cX3_init, cX3_collect, cX3_insertRow, cX3_isAhead, cX3_join, cX3_property, cX4_init, cX4_copyFrom, cX4_reset, cX4_listOf, cX4_publishLatest, cX4_sendCorrection, cX4_sendWhole, cX4_send, cX4_passTicks, cX4_passTick, cX4_hearWhatIsDue, cX4_noteHeard, cX4_knows, cX4_misses, cX4_numbersHeard, cX4_numbersMissed, cX4_numbersBehind, cX4_differing, cX4_isPublished, cX4_minutesWrong, cX4_sameListeners, cX4_allDropped, cX4_allUnheard, cX4_ticksUntilSame, cX5_init, cX5_hasRoom, cX5_takeIn, cX5_parse, cX5_parseStop, cX5_parseListener, cX5_parseGap, cX5_fail, cX5_takeWord, cX5_takeSemicolon, cX5_takeNumber, cX5_isWord, cX5_advance, cX5_isLetter, cX5_isDigit, cX6_init, cX6_copyFrom, cX6_isWhole, cX6_begin, cX6_setDue, cX6_stillToHear, cX7_init, cX7_clear, cX7_put, cX7_putNumber, cX7_putRun, cX8_init, cX8_copyFrom]
def m_bytesL_1 : List (ByteArray) := [cX8_reset, cX8_setRow, cX8_setFree, cX8_tellNext, cX8_rowOf, cX8_property, cX8_covers, cX8_isAlike, cX8_stopsIn, cX8_differences, cX10_init, cX10_append, cX10_load, cX10_parseError, cX10_errorPosition, cX10_buffered, cX10_count, cX10_stop, cX10_onAir, cX10_number, cX10_minutes, cX10_stands, cX10_nextAt, cX10_clashes, cX10_merged, cX10_mergedStop, cX10_listener, cX10_gap, cX10_hasHeard, cX10_missing, cX10_isSame, cX10_wrongMinutes, cX10_worst, cX10_behind, cX10_overtakes, cX10_sameIn, cX10_allSameIn, cX10_heardIn, cX10_missingIn, cX10_wrongIn, cX10_quietIn, cX10_wholeIn, cX10_sameWithout, cX10_sameWith, cX10_bestPeriod, cX10_sameShare, cX10_meanBehind, cX10_writeDay, cX10_writeMissing, cX10_textByte, cX10_correct, cX10_cancel, cX10_repeat, cX10_whole, cX10_tick, cX10_addGap, cX10_dropGap, cX10_setDelay, cX10_setPeriod, cX10_fetch, cX10_undo, cX10_undoable, cX10_save, cX10_restore, cX10_needRadio, cX10_needListener, cX10_needList, cX10_needSlot, cX10_needSavingSlot, cX10_needBetween, cX10_needCorrection, cX10_needNumberLeft, cX10_needRoomOnAir, cX11_init, cX11_thrown, cX11_in, cX11_flag, cX11_refuse, cX11_notLoaded, cX11_noListener]
def m_bytesL_2 : List (ByteArray) := [cX11_noList, cX11_isSlot, cX11_isDay, cX11_copies, cX11_slotOf, cX11_of, cX11_ofListener, cX11_putsListener, cX11_grows, cX11_ofAir, cX11_ofNumber, cX11_isNumber, cX11_hasHeardIt, cX11_isFree, cX11_laysSlot, cX11_append, cX11_buffered, cX11_parseError, cX11_errorPosition, cX11_seen, cX11_isSmall, cX11_isDigit, cX11_token, cX11_fails, cX11_failsIf, cX11_goesOn, cX11_isWord, cX11_takes, cX11_stopLine, cX11_hearsLine, cX11_reads, cX11_load, cX11_hasRoom, cX11_airs, cX11_firstDue, cX11_rank, cX11_isAhead, cX11_airAt, cX11_stillTo, cX11_clears, cX11_isOff, cX11_hearsNumber, cX11_hearsCorrection, cX11_hearsWhole, cX11_hears, cX11_nextDue, cX11_listens, cX11_ticks, cX11_ticksAll, cX11_areAlike, cX11_differing, cX11_sameOnes, cX11_stopsNow, cX11_onAirOf, cX11_sumOf, cX11_count, cX11_stop, cX11_onAir, cX11_heardBy, cX11_isOnAir, cX11_number, cX11_covers, cX11_standsAt, cX11_minutes, cX11_noMinute, cX11_stands, cX11_nextAt, cX11_isClash, cX11_clashes, cX11_comesAhead, cX11_drops, cX11_puts, cX11_merges, cX11_noDay, cX11_merged, cX11_mergedStop, cX11_misses, cX11_missed, cX11_heardOnes, cX11_listener]
def m_bytesL_3 : List (ByteArray) := [cX11_gap, cX11_hasHeard, cX11_missing, cX11_isSame, cX11_wrongOnes, cX11_wrongMinutes, cX11_worst, cX11_behindOf, cX11_behind, cX11_lastDue, cX11_overtakes, cX11_tries, cX11_back, cX11_sameNow, cX11_sameIn, cX11_allSameNow, cX11_allSameIn, cX11_heardNow, cX11_heardIn, cX11_noTicks, cX11_missingIn, cX11_wrongIn, cX11_quietNow, cX11_quietIn, cX11_wholeIn, cX11_sameWithout, cX11_sameBy, cX11_sameWith, cX11_bestPeriod, cX11_sameShare, cX11_meanBehind, cX11_says, cX11_saysNumber, cX11_writeDay, cX11_writeMissing, cX11_textByte, cX11_keepsAll, cX11_isLength, cX11_canPublish, cX11_publishes, cX11_isStop, cX11_correct, cX11_cancel, cX11_repeat, cX11_whole, cX11_tick, cX11_addGap, cX11_dropGap, cX11_setDelay, cX11_setPeriod, cX11_fetch, cX11_undo, cX11_undoable, cX11_save, cX11_restore, cX9_placeAt, cX9_nextEdge, cX9_minutesAt, cX9_minutesApart, cX9_firstMinute, cX9_clashing, cX9_isClash, cL_load, cL_count, cL_stop, cL_onAir, cL_number, cL_minutes, cL_stands, cL_nextAt, cL_clashes, cL_merged, cL_mergedStop, cL_listener, cL_gap, cL_hasHeard, cL_missing, cL_isSame, cL_wrongMinutes, cL_worst]
def m_bytesL_4 : List (ByteArray) := [cL_behind, cL_overtakes, cL_sameIn, cL_allSameIn, cL_heardIn, cL_missingIn, cL_wrongIn, cL_quietIn, cL_wholeIn, cL_sameWithout, cL_sameWith, cL_bestPeriod, cL_sameShare, cL_meanBehind, cL_writeDay, cL_writeMissing, cL_textByte, cL_correct, cL_cancel, cL_repeat, cL_whole, cL_tick, cL_addGap, cL_dropGap, cL_setDelay, cL_setPeriod, cL_fetch, cL_undo, cL_save, cL_restore, cL_law, cJ6_bitCount_0f7a4, cJ0_length_8abf5, cJ0_charAt_5068e, cJ0_coder_7d493, cJ0_isLatin1_aae02, cJ0_checkIndex_df160, cJ1_charAt_3b067, cJ3_checkIndex_8e157]
def m_bytesL : List (ByteArray) := m_bytesL_0 ++ (m_bytesL_1 ++ (m_bytesL_2 ++ (m_bytesL_3 ++ (m_bytesL_4))))
def m_retTL_0 : List (Option FieldType) := [(Option.none : Option Jvm.ClassFile.FieldType), (Option.none : Option Jvm.ClassFile.FieldType), (Option.some Jvm.ClassFile.FieldType.boolean), (Option.some (Jvm.ClassFile.FieldType.object "BookmobileRadio$Signal")), (Option.some Jvm.ClassFile.FieldType.boolean), (Option.none : Option Jvm.ClassFile.FieldType), (Option.some (Jvm.ClassFile.FieldType.object "BookmobileRadio$Signal")), (Option.some Jvm.ClassFile.FieldType.int), (Option.some Jvm.ClassFile.FieldType.int), (Option.some Jvm.ClassFile.FieldType.boolean), (Option.none : Option Jvm.ClassFile.FieldType), (Option.none : Option Jvm.ClassFile.FieldType), (Option.none : Option Jvm.ClassFile.FieldType), (Option.none : Option Jvm.ClassFile.FieldType), (Option.none : Option Jvm.ClassFile.FieldType), (Option.none : Option Jvm.ClassFile.FieldType), (Option.none : Option Jvm.ClassFile.FieldType), (Option.some Jvm.ClassFile.FieldType.boolean), (Option.none : Option Jvm.ClassFile.FieldType), (Option.none : Option Jvm.ClassFile.FieldType), (Option.none : Option Jvm.ClassFile.FieldType), (Option.none : Option Jvm.ClassFile.FieldType), (Option.none : Option Jvm.ClassFile.FieldType), (Option.none : Option Jvm.ClassFile.FieldType), (Option.none : Option Jvm.ClassFile.FieldType), (Option.some Jvm.ClassFile.FieldType.boolean), (Option.none : Option Jvm.ClassFile.FieldType), (Option.some Jvm.ClassFile.FieldType.int), (Option.none : Option Jvm.ClassFile.FieldType), (Option.none : Option Jvm.ClassFile.FieldType), (Option.none : Option Jvm.ClassFile.FieldType), (Option.some (Jvm.ClassFile.FieldType.array Jvm.ClassFile.FieldType.int)), (Option.some Jvm.ClassFile.FieldType.int), (Option.none : Option Jvm.ClassFile.FieldType), (Option.none : Option Jvm.ClassFile.FieldType), (Option.none : Option Jvm.ClassFile.FieldType), (Option.none : Option Jvm.ClassFile.FieldType), (Option.none : Option Jvm.ClassFile.FieldType), (Option.none : Option Jvm.ClassFile.FieldType), (Option.none : Option Jvm.ClassFile.FieldType), (Option.some Jvm.ClassFile.FieldType.boolean), (Option.some Jvm.ClassFile.FieldType.boolean), (Option.some Jvm.ClassFile.FieldType.int), (Option.some Jvm.ClassFile.FieldType.int), (Option.some Jvm.ClassFile.FieldType.int), (Option.some Jvm.ClassFile.FieldType.int), (Option.some Jvm.ClassFile.FieldType.boolean), (Option.some Jvm.ClassFile.FieldType.int), (Option.some Jvm.ClassFile.FieldType.int), (Option.some Jvm.ClassFile.FieldType.int), (Option.some Jvm.ClassFile.FieldType.int), (Option.some Jvm.ClassFile.FieldType.int), (Option.none : Option Jvm.ClassFile.FieldType), (Option.some Jvm.ClassFile.FieldType.boolean), (Option.none : Option Jvm.ClassFile.FieldType), (Option.some Jvm.ClassFile.FieldType.boolean), (Option.some Jvm.ClassFile.FieldType.boolean), (Option.some Jvm.ClassFile.FieldType.boolean), (Option.some Jvm.ClassFile.FieldType.boolean), (Option.some Jvm.ClassFile.FieldType.boolean), (Option.some Jvm.ClassFile.FieldType.boolean), (Option.some Jvm.ClassFile.FieldType.boolean), (Option.some Jvm.ClassFile.FieldType.boolean), (Option.some Jvm.ClassFile.FieldType.boolean), (Option.none : Option Jvm.ClassFile.FieldType), (Option.some Jvm.ClassFile.FieldType.boolean), (Option.some Jvm.ClassFile.FieldType.boolean), (Option.none : Option Jvm.ClassFile.FieldType), (Option.none : Option Jvm.ClassFile.FieldType), (Option.some Jvm.ClassFile.FieldType.boolean), (Option.none : Option Jvm.ClassFile.FieldType), (Option.none : Option Jvm.ClassFile.FieldType), (Option.some Jvm.ClassFile.FieldType.int), (Option.none : Option Jvm.ClassFile.FieldType), (Option.none : Option Jvm.ClassFile.FieldType), (Option.none : Option Jvm.ClassFile.FieldType), (Option.none : Option Jvm.ClassFile.FieldType), (Option.none : Option Jvm.ClassFile.FieldType), (Option.none : Option Jvm.ClassFile.FieldType), (Option.none : Option Jvm.ClassFile.FieldType)]
def m_retTL_1 : List (Option FieldType) := [(Option.none : Option Jvm.ClassFile.FieldType), (Option.none : Option Jvm.ClassFile.FieldType), (Option.none : Option Jvm.ClassFile.FieldType), (Option.none : Option Jvm.ClassFile.FieldType), (Option.some Jvm.ClassFile.FieldType.int), (Option.some Jvm.ClassFile.FieldType.int), (Option.some Jvm.ClassFile.FieldType.boolean), (Option.some Jvm.ClassFile.FieldType.boolean), (Option.some Jvm.ClassFile.FieldType.int), (Option.some Jvm.ClassFile.FieldType.int), (Option.none : Option Jvm.ClassFile.FieldType), (Option.some Jvm.ClassFile.FieldType.int), (Option.some Jvm.ClassFile.FieldType.int), (Option.some Jvm.ClassFile.FieldType.int), (Option.some Jvm.ClassFile.FieldType.int), (Option.some Jvm.ClassFile.FieldType.int), (Option.some Jvm.ClassFile.FieldType.int), (Option.some Jvm.ClassFile.FieldType.int), (Option.some Jvm.ClassFile.FieldType.int), (Option.some Jvm.ClassFile.FieldType.int), (Option.some Jvm.ClassFile.FieldType.int), (Option.some Jvm.ClassFile.FieldType.int), (Option.some Jvm.ClassFile.FieldType.int), (Option.some Jvm.ClassFile.FieldType.int), (Option.some Jvm.ClassFile.FieldType.int), (Option.some Jvm.ClassFile.FieldType.int), (Option.some Jvm.ClassFile.FieldType.int), (Option.some Jvm.ClassFile.FieldType.int), (Option.some Jvm.ClassFile.FieldType.boolean), (Option.some Jvm.ClassFile.FieldType.int), (Option.some Jvm.ClassFile.FieldType.boolean), (Option.some Jvm.ClassFile.FieldType.int), (Option.some Jvm.ClassFile.FieldType.int), (Option.some Jvm.ClassFile.FieldType.int), (Option.some Jvm.ClassFile.FieldType.int), (Option.some Jvm.ClassFile.FieldType.int), (Option.some Jvm.ClassFile.FieldType.int), (Option.some Jvm.ClassFile.FieldType.int), (Option.some Jvm.ClassFile.FieldType.int), (Option.some Jvm.ClassFile.FieldType.int), (Option.some Jvm.ClassFile.FieldType.int), (Option.some Jvm.ClassFile.FieldType.int), (Option.some Jvm.ClassFile.FieldType.int), (Option.some Jvm.ClassFile.FieldType.int), (Option.some Jvm.ClassFile.FieldType.int), (Option.some Jvm.ClassFile.FieldType.float), (Option.some Jvm.ClassFile.FieldType.double), (Option.some Jvm.ClassFile.FieldType.int), (Option.some Jvm.ClassFile.FieldType.int), (Option.some Jvm.ClassFile.FieldType.int), (Option.some Jvm.ClassFile.FieldType.int), (Option.some Jvm.ClassFile.FieldType.int), (Option.some Jvm.ClassFile.FieldType.int), (Option.some Jvm.ClassFile.FieldType.int), (Option.some Jvm.ClassFile.FieldType.int), (Option.some Jvm.ClassFile.FieldType.int), (Option.some Jvm.ClassFile.FieldType.int), (Option.some Jvm.ClassFile.FieldType.int), (Option.some Jvm.ClassFile.FieldType.int), (Option.some Jvm.ClassFile.FieldType.int), (Option.some Jvm.ClassFile.FieldType.int), (Option.some Jvm.ClassFile.FieldType.int), (Option.some Jvm.ClassFile.FieldType.int), (Option.some Jvm.ClassFile.FieldType.int), (Option.none : Option Jvm.ClassFile.FieldType), (Option.none : Option Jvm.ClassFile.FieldType), (Option.none : Option Jvm.ClassFile.FieldType), (Option.none : Option Jvm.ClassFile.FieldType), (Option.none : Option Jvm.ClassFile.FieldType), (Option.none : Option Jvm.ClassFile.FieldType), (Option.none : Option Jvm.ClassFile.FieldType), (Option.none : Option Jvm.ClassFile.FieldType), (Option.none : Option Jvm.ClassFile.FieldType), (Option.none : Option Jvm.ClassFile.FieldType), (Option.some Jvm.ClassFile.FieldType.int), (Option.some Jvm.ClassFile.FieldType.boolean), (Option.some Jvm.ClassFile.FieldType.int), (Option.some Jvm.ClassFile.FieldType.boolean), (Option.some Jvm.ClassFile.FieldType.boolean), (Option.some Jvm.ClassFile.FieldType.boolean)]
def m_retTL_2 : List (Option FieldType) := [(Option.some Jvm.ClassFile.FieldType.boolean), (Option.some Jvm.ClassFile.FieldType.boolean), (Option.some Jvm.ClassFile.FieldType.boolean), (Option.none : Option Jvm.ClassFile.FieldType), (Option.some Jvm.ClassFile.FieldType.int), (Option.some Jvm.ClassFile.FieldType.int), (Option.some Jvm.ClassFile.FieldType.int), (Option.none : Option Jvm.ClassFile.FieldType), (Option.none : Option Jvm.ClassFile.FieldType), (Option.some Jvm.ClassFile.FieldType.int), (Option.some Jvm.ClassFile.FieldType.int), (Option.some Jvm.ClassFile.FieldType.boolean), (Option.some Jvm.ClassFile.FieldType.boolean), (Option.some Jvm.ClassFile.FieldType.boolean), (Option.none : Option Jvm.ClassFile.FieldType), (Option.some Jvm.ClassFile.FieldType.int), (Option.some Jvm.ClassFile.FieldType.int), (Option.some Jvm.ClassFile.FieldType.int), (Option.some Jvm.ClassFile.FieldType.int), (Option.some Jvm.ClassFile.FieldType.int), (Option.some Jvm.ClassFile.FieldType.boolean), (Option.some Jvm.ClassFile.FieldType.boolean), (Option.none : Option Jvm.ClassFile.FieldType), (Option.none : Option Jvm.ClassFile.FieldType), (Option.none : Option Jvm.ClassFile.FieldType), (Option.none : Option Jvm.ClassFile.FieldType), (Option.some Jvm.ClassFile.FieldType.boolean), (Option.some Jvm.ClassFile.FieldType.int), (Option.none : Option Jvm.ClassFile.FieldType), (Option.none : Option Jvm.ClassFile.FieldType), (Option.none : Option Jvm.ClassFile.FieldType), (Option.some Jvm.ClassFile.FieldType.int), (Option.some Jvm.ClassFile.FieldType.boolean), (Option.none : Option Jvm.ClassFile.FieldType), (Option.some Jvm.ClassFile.FieldType.int), (Option.some Jvm.ClassFile.FieldType.long), (Option.some Jvm.ClassFile.FieldType.boolean), (Option.some Jvm.ClassFile.FieldType.int), (Option.some Jvm.ClassFile.FieldType.int), (Option.none : Option Jvm.ClassFile.FieldType), (Option.some Jvm.ClassFile.FieldType.boolean), (Option.none : Option Jvm.ClassFile.FieldType), (Option.none : Option Jvm.ClassFile.FieldType), (Option.none : Option Jvm.ClassFile.FieldType), (Option.none : Option Jvm.ClassFile.FieldType), (Option.some Jvm.ClassFile.FieldType.int), (Option.none : Option Jvm.ClassFile.FieldType), (Option.none : Option Jvm.ClassFile.FieldType), (Option.none : Option Jvm.ClassFile.FieldType), (Option.some Jvm.ClassFile.FieldType.boolean), (Option.some Jvm.ClassFile.FieldType.int), (Option.some Jvm.ClassFile.FieldType.int), (Option.some Jvm.ClassFile.FieldType.int), (Option.some Jvm.ClassFile.FieldType.int), (Option.some Jvm.ClassFile.FieldType.int), (Option.some Jvm.ClassFile.FieldType.int), (Option.some Jvm.ClassFile.FieldType.int), (Option.some Jvm.ClassFile.FieldType.int), (Option.some Jvm.ClassFile.FieldType.int), (Option.some Jvm.ClassFile.FieldType.boolean), (Option.some Jvm.ClassFile.FieldType.int), (Option.some Jvm.ClassFile.FieldType.boolean), (Option.some Jvm.ClassFile.FieldType.int), (Option.some Jvm.ClassFile.FieldType.int), (Option.some Jvm.ClassFile.FieldType.boolean), (Option.some Jvm.ClassFile.FieldType.int), (Option.some Jvm.ClassFile.FieldType.int), (Option.some Jvm.ClassFile.FieldType.boolean), (Option.some Jvm.ClassFile.FieldType.int), (Option.some Jvm.ClassFile.FieldType.boolean), (Option.none : Option Jvm.ClassFile.FieldType), (Option.none : Option Jvm.ClassFile.FieldType), (Option.none : Option Jvm.ClassFile.FieldType), (Option.some Jvm.ClassFile.FieldType.boolean), (Option.some Jvm.ClassFile.FieldType.int), (Option.some Jvm.ClassFile.FieldType.int), (Option.some Jvm.ClassFile.FieldType.boolean), (Option.some Jvm.ClassFile.FieldType.int), (Option.some Jvm.ClassFile.FieldType.int), (Option.some Jvm.ClassFile.FieldType.int)]
def m_retTL_3 : List (Option FieldType) := [(Option.some Jvm.ClassFile.FieldType.int), (Option.some Jvm.ClassFile.FieldType.boolean), (Option.some Jvm.ClassFile.FieldType.int), (Option.some Jvm.ClassFile.FieldType.boolean), (Option.some Jvm.ClassFile.FieldType.int), (Option.some Jvm.ClassFile.FieldType.int), (Option.some Jvm.ClassFile.FieldType.int), (Option.some Jvm.ClassFile.FieldType.int), (Option.some Jvm.ClassFile.FieldType.int), (Option.some Jvm.ClassFile.FieldType.int), (Option.some Jvm.ClassFile.FieldType.int), (Option.none : Option Jvm.ClassFile.FieldType), (Option.some Jvm.ClassFile.FieldType.int), (Option.some Jvm.ClassFile.FieldType.int), (Option.some Jvm.ClassFile.FieldType.int), (Option.some Jvm.ClassFile.FieldType.int), (Option.some Jvm.ClassFile.FieldType.int), (Option.some Jvm.ClassFile.FieldType.int), (Option.some Jvm.ClassFile.FieldType.int), (Option.some Jvm.ClassFile.FieldType.boolean), (Option.some Jvm.ClassFile.FieldType.int), (Option.some Jvm.ClassFile.FieldType.int), (Option.some Jvm.ClassFile.FieldType.int), (Option.some Jvm.ClassFile.FieldType.int), (Option.some Jvm.ClassFile.FieldType.int), (Option.some Jvm.ClassFile.FieldType.int), (Option.some Jvm.ClassFile.FieldType.int), (Option.some Jvm.ClassFile.FieldType.int), (Option.some Jvm.ClassFile.FieldType.int), (Option.some Jvm.ClassFile.FieldType.float), (Option.some Jvm.ClassFile.FieldType.double), (Option.none : Option Jvm.ClassFile.FieldType), (Option.none : Option Jvm.ClassFile.FieldType), (Option.some Jvm.ClassFile.FieldType.int), (Option.some Jvm.ClassFile.FieldType.int), (Option.some Jvm.ClassFile.FieldType.int), (Option.none : Option Jvm.ClassFile.FieldType), (Option.some Jvm.ClassFile.FieldType.boolean), (Option.some Jvm.ClassFile.FieldType.boolean), (Option.some Jvm.ClassFile.FieldType.int), (Option.some Jvm.ClassFile.FieldType.boolean), (Option.some Jvm.ClassFile.FieldType.int), (Option.some Jvm.ClassFile.FieldType.int), (Option.some Jvm.ClassFile.FieldType.int), (Option.some Jvm.ClassFile.FieldType.int), (Option.some Jvm.ClassFile.FieldType.int), (Option.some Jvm.ClassFile.FieldType.int), (Option.some Jvm.ClassFile.FieldType.int), (Option.some Jvm.ClassFile.FieldType.int), (Option.some Jvm.ClassFile.FieldType.int), (Option.some Jvm.ClassFile.FieldType.int), (Option.some Jvm.ClassFile.FieldType.int), (Option.some Jvm.ClassFile.FieldType.int), (Option.some Jvm.ClassFile.FieldType.int), (Option.some Jvm.ClassFile.FieldType.int), (Option.some Jvm.ClassFile.FieldType.int), (Option.some Jvm.ClassFile.FieldType.int), (Option.some Jvm.ClassFile.FieldType.int), (Option.some Jvm.ClassFile.FieldType.int), (Option.some Jvm.ClassFile.FieldType.int), (Option.some Jvm.ClassFile.FieldType.int), (Option.some Jvm.ClassFile.FieldType.boolean), (Option.some Jvm.ClassFile.FieldType.int), (Option.some Jvm.ClassFile.FieldType.int), (Option.some Jvm.ClassFile.FieldType.int), (Option.some Jvm.ClassFile.FieldType.int), (Option.some Jvm.ClassFile.FieldType.int), (Option.some Jvm.ClassFile.FieldType.int), (Option.some Jvm.ClassFile.FieldType.int), (Option.some Jvm.ClassFile.FieldType.int), (Option.some Jvm.ClassFile.FieldType.int), (Option.some Jvm.ClassFile.FieldType.int), (Option.some Jvm.ClassFile.FieldType.int), (Option.some Jvm.ClassFile.FieldType.int), (Option.some Jvm.ClassFile.FieldType.int), (Option.some Jvm.ClassFile.FieldType.int), (Option.some Jvm.ClassFile.FieldType.int), (Option.some Jvm.ClassFile.FieldType.int), (Option.some Jvm.ClassFile.FieldType.int), (Option.some Jvm.ClassFile.FieldType.int)]
def m_retTL_4 : List (Option FieldType) := [(Option.some Jvm.ClassFile.FieldType.int), (Option.some Jvm.ClassFile.FieldType.int), (Option.some Jvm.ClassFile.FieldType.int), (Option.some Jvm.ClassFile.FieldType.int), (Option.some Jvm.ClassFile.FieldType.int), (Option.some Jvm.ClassFile.FieldType.int), (Option.some Jvm.ClassFile.FieldType.int), (Option.some Jvm.ClassFile.FieldType.int), (Option.some Jvm.ClassFile.FieldType.int), (Option.some Jvm.ClassFile.FieldType.int), (Option.some Jvm.ClassFile.FieldType.int), (Option.some Jvm.ClassFile.FieldType.int), (Option.some Jvm.ClassFile.FieldType.int), (Option.some Jvm.ClassFile.FieldType.int), (Option.some Jvm.ClassFile.FieldType.int), (Option.some Jvm.ClassFile.FieldType.int), (Option.some Jvm.ClassFile.FieldType.int), (Option.some Jvm.ClassFile.FieldType.int), (Option.some Jvm.ClassFile.FieldType.int), (Option.some Jvm.ClassFile.FieldType.int), (Option.some Jvm.ClassFile.FieldType.int), (Option.some Jvm.ClassFile.FieldType.int), (Option.some Jvm.ClassFile.FieldType.int), (Option.some Jvm.ClassFile.FieldType.int), (Option.some Jvm.ClassFile.FieldType.int), (Option.some Jvm.ClassFile.FieldType.int), (Option.some Jvm.ClassFile.FieldType.int), (Option.some Jvm.ClassFile.FieldType.int), (Option.some Jvm.ClassFile.FieldType.int), (Option.some Jvm.ClassFile.FieldType.int), (some .boolean), (Option.some Jvm.ClassFile.FieldType.int), (Option.some Jvm.ClassFile.FieldType.int), (Option.some Jvm.ClassFile.FieldType.char), (Option.some Jvm.ClassFile.FieldType.byte), (Option.some Jvm.ClassFile.FieldType.boolean), (Option.none : Option Jvm.ClassFile.FieldType), (Option.some Jvm.ClassFile.FieldType.char), (Option.some Jvm.ClassFile.FieldType.int)]
def m_retTL : List (Option FieldType) := m_retTL_0 ++ (m_retTL_1 ++ (m_retTL_2 ++ (m_retTL_3 ++ (m_retTL_4))))
def m_hhL_0 : List (List (Nat × Nat × Nat × Nat)) := [[], [], [], [], [], [], [], [], [], [], [], [], [], [], [], [], [], [], [], [], [], [], [], [], [], [], [], [], [], [], [], [], [], [], [], [], [], [], [], [], [], [], [], [], [], [], [], [], [], [], [], [], [], [], [], [], [], [], [], [], [], [], [], [], [], [], [], [], [], [], [], [], [], [], [], [], [], [], [], []]
def m_hhL_1 : List (List (Nat × Nat × Nat × Nat)) := [[], [], [], [], [], [], [], [], [], [], [], [], [], [], [], [], [], [], [], [], [], [], [], [], [], [], [], [], [], [], [], [], [], [], [], [], [], [], [], [], [], [], [], [], [], [], [], [], [], [], [], [], [], [], [], [], [], [], [], [], [], [], [], [], [], [], [], [], [], [], [], [], [], [], [], [], [], [], [], []]
def m_hhL_2 : List (List (Nat × Nat × Nat × Nat)) := [[], [], [], [], [], [], [], [], [], [], [], [], [], [], [], [], [], [], [], [], [], [], [], [], [], [], [], [], [], [], [], [], [], [], [], [], [], [], [], [], [], [], [], [], [], [], [], [], [], [], [], [], [], [], [], [], [], [], [], [], [], [], [], [], [], [], [], [], [], [], [], [], [], [], [], [], [], [], [], []]
def m_hhL_3 : List (List (Nat × Nat × Nat × Nat)) := [[], [], [], [], [], [], [], [], [], [], [], [], [], [], [], [], [], [], [], [], [], [], [], [], [], [], [], [], [], [], [], [], [], [], [], [], [], [], [], [], [], [], [], [], [], [], [], [], [], [], [], [], [], [], [], [], [], [], [], [], [], [], [(0, 9, 12, 13), (0, 9, 15, 15)], [(0, 9, 12, 20), (0, 9, 15, 15)], [(0, 12, 15, 20), (0, 12, 19, 13), (0, 12, 23, 15)], [(0, 10, 13, 20), (0, 10, 17, 13), (0, 10, 21, 15)], [(0, 10, 13, 20), (0, 10, 17, 15)], [(0, 10, 13, 20), (0, 10, 17, 13), (0, 10, 21, 15)], [(0, 12, 15, 20), (0, 12, 19, 13), (0, 12, 23, 15)], [(0, 12, 15, 20), (0, 12, 19, 13), (0, 12, 23, 15)], [(0, 9, 12, 20), (0, 9, 15, 13)], [(0, 10, 13, 20), (0, 10, 17, 13), (0, 10, 21, 15)], [(0, 14, 17, 20), (0, 14, 21, 13), (0, 14, 25, 15)], [(0, 10, 13, 20), (0, 10, 17, 13), (0, 10, 21, 15)], [(0, 12, 15, 20), (0, 12, 19, 13), (0, 12, 23, 15)], [(0, 17, 20, 20), (0, 17, 24, 13)], [(0, 10, 13, 20), (0, 10, 17, 13)], [(0, 17, 20, 20), (0, 17, 24, 13)], [(0, 9, 12, 20), (0, 9, 15, 13)], [(0, 8, 11, 20)]]
def m_hhL_4 : List (List (Nat × Nat × Nat × Nat)) := [[(0, 9, 12, 20), (0, 9, 15, 13)], [(0, 9, 12, 20), (0, 9, 15, 13)], [(0, 9, 12, 20), (0, 9, 15, 13)], [(0, 8, 11, 20)], [(0, 10, 13, 20), (0, 10, 17, 13)], [(0, 10, 13, 20), (0, 10, 17, 13), (0, 10, 21, 15)], [(0, 10, 13, 20), (0, 10, 17, 13), (0, 10, 21, 15)], [(0, 8, 11, 20)], [(0, 8, 11, 20)], [(0, 9, 12, 20), (0, 9, 15, 13)], [(0, 10, 13, 20), (0, 10, 17, 13), (0, 10, 21, 15)], [(0, 9, 12, 20), (0, 9, 15, 13)], [(0, 8, 11, 20)], [(0, 7, 10, 20)], [(0, 10, 13, 20), (0, 10, 17, 13), (0, 10, 21, 15)], [(0, 9, 12, 20), (0, 9, 15, 13)], [(0, 9, 12, 13)], [(0, 18, 21, 20), (0, 18, 25, 13), (0, 18, 29, 15)], [(0, 10, 13, 20), (0, 10, 17, 13), (0, 10, 21, 15)], [(0, 10, 13, 20), (0, 10, 17, 15)], [(0, 9, 12, 20), (0, 9, 15, 15)], [(0, 9, 12, 20), (0, 9, 15, 15)], [(0, 12, 15, 20), (0, 12, 19, 13), (0, 12, 23, 15)], [(0, 10, 13, 20), (0, 10, 17, 13)], [(0, 10, 13, 20), (0, 10, 17, 13), (0, 10, 21, 15)], [(0, 9, 12, 20), (0, 9, 15, 15)], [(0, 9, 12, 20), (0, 9, 15, 13)], [(0, 8, 11, 20)], [(0, 9, 12, 20), (0, 9, 15, 13)], [(0, 9, 12, 13), (0, 9, 15, 20)], [], [], [], [], [], [], [], [], []]
def m_hhL : List (List (Nat × Nat × Nat × Nat)) := m_hhL_0 ++ (m_hhL_1 ++ (m_hhL_2 ++ (m_hhL_3 ++ (m_hhL_4))))
def m_name (m : Nat) : MethodName := m_nameL.getD m yL_law
def m_bytes (m : Nat) : ByteArray := m_bytesL.getD m cL_law
def m_retT (m : Nat) : Option FieldType := m_retTL.getD m none
def m_hh (m : Nat) : List (Nat × Nat × Nat × Nat) := m_hhL.getD m []
def m_word (m : Nat) : Jvm.Cond := if (m_hh m).isEmpty then .code (m_name m) (m_bytes m) (m_maxL m) (m_retT m) else .codeWith (m_name m) (m_bytes m) (m_maxL m) (m_retT m) (m_hh m)
/-- the words that any method may use -/
def w_all : List Jvm.Cond := lw_tbl.filter goodWord
theorem w_in {w : Jvm.Cond} {i : Nat} (h : lw_tbl[i]? = some w ∧ goodWord w = true) : w ∈ w_all := List.mem_filter.mpr ⟨List.mem_of_getElem? h.1, h.2⟩
set_option maxRecDepth 100000 in
theorem v_w0 : m_word 0 ∈ w_all := w_in (i := 239) ⟨rfl, rfl⟩
set_option maxRecDepth 100000 in
theorem v_w1 : m_word 1 ∈ w_all := w_in (i := 749) ⟨rfl, rfl⟩
set_option maxRecDepth 100000 in
theorem v_w2 : m_word 2 ∈ w_all := w_in (i := 1113) ⟨rfl, rfl⟩
set_option maxRecDepth 100000 in
theorem v_w3 : m_word 3 ∈ w_all := w_in (i := 1121) ⟨rfl, rfl⟩
set_option maxRecDepth 100000 in
theorem v_w4 : m_word 4 ∈ w_all := w_in (i := 1125) ⟨rfl, rfl⟩
set_option maxRecDepth 100000 in
theorem v_w5 : m_word 5 ∈ w_all := w_in (i := 1159) ⟨rfl, rfl⟩
set_option maxRecDepth 100000 in
theorem v_w6 : m_word 6 ∈ w_all := w_in (i := 883) ⟨rfl, rfl⟩
set_option maxRecDepth 100000 in
theorem v_w7 : m_word 7 ∈ w_all := w_in (i := 887) ⟨rfl, rfl⟩
set_option maxRecDepth 100000 in
theorem v_w8 : m_word 8 ∈ w_all := w_in (i := 803) ⟨rfl, rfl⟩
set_option maxRecDepth 100000 in
theorem v_w9 : m_word 9 ∈ w_all := w_in (i := 908) ⟨rfl, rfl⟩
set_option maxRecDepth 100000 in
theorem v_w10 : m_word 10 ∈ w_all := w_in (i := 398) ⟨rfl, rfl⟩
set_option maxRecDepth 100000 in
theorem v_w11 : m_word 11 ∈ w_all := w_in (i := 1316) ⟨rfl, rfl⟩
set_option maxRecDepth 100000 in
theorem v_w12 : m_word 12 ∈ w_all := w_in (i := 1420) ⟨rfl, rfl⟩
set_option maxRecDepth 100000 in
theorem v_w13 : m_word 13 ∈ w_all := w_in (i := 763) ⟨rfl, rfl⟩
set_option maxRecDepth 100000 in
theorem v_w14 : m_word 14 ∈ w_all := w_in (i := 303) ⟨rfl, rfl⟩
set_option maxRecDepth 100000 in
theorem v_w15 : m_word 15 ∈ w_all := w_in (i := 758) ⟨rfl, rfl⟩
set_option maxRecDepth 100000 in
theorem v_w16 : m_word 16 ∈ w_all := w_in (i := 708) ⟨rfl, rfl⟩
set_option maxRecDepth 100000 in
theorem v_w17 : m_word 17 ∈ w_all := w_in (i := 1013) ⟨rfl, rfl⟩
set_option maxRecDepth 100000 in
theorem v_w18 : m_word 18 ∈ w_all := w_in (i := 717) ⟨rfl, rfl⟩
set_option maxRecDepth 100000 in
theorem v_w19 : m_word 19 ∈ w_all := w_in (i := 1383) ⟨rfl, rfl⟩
set_option maxRecDepth 100000 in
theorem v_w20 : m_word 20 ∈ w_all := w_in (i := 1148) ⟨rfl, rfl⟩
set_option maxRecDepth 100000 in
theorem v_w21 : m_word 21 ∈ w_all := w_in (i := 1408) ⟨rfl, rfl⟩
set_option maxRecDepth 100000 in
theorem v_w22 : m_word 22 ∈ w_all := w_in (i := 418) ⟨rfl, rfl⟩
set_option maxRecDepth 100000 in
theorem v_w23 : m_word 23 ∈ w_all := w_in (i := 977) ⟨rfl, rfl⟩
set_option maxRecDepth 100000 in
theorem v_w24 : m_word 24 ∈ w_all := w_in (i := 982) ⟨rfl, rfl⟩
set_option maxRecDepth 100000 in
theorem v_w25 : m_word 25 ∈ w_all := w_in (i := 986) ⟨rfl, rfl⟩
set_option maxRecDepth 100000 in
theorem v_w26 : m_word 26 ∈ w_all := w_in (i := 990) ⟨rfl, rfl⟩
set_option maxRecDepth 100000 in
theorem v_w27 : m_word 27 ∈ w_all := w_in (i := 1002) ⟨rfl, rfl⟩
set_option maxRecDepth 100000 in
theorem v_w28 : m_word 28 ∈ w_all := w_in (i := 186) ⟨rfl, rfl⟩
set_option maxRecDepth 100000 in
theorem v_w29 : m_word 29 ∈ w_all := w_in (i := 737) ⟨rfl, rfl⟩
set_option maxRecDepth 100000 in
theorem v_w30 : m_word 30 ∈ w_all := w_in (i := 602) ⟨rfl, rfl⟩
set_option maxRecDepth 100000 in
theorem v_w31 : m_word 31 ∈ w_all := w_in (i := 866) ⟨rfl, rfl⟩
set_option maxRecDepth 100000 in
theorem v_w32 : m_word 32 ∈ w_all := w_in (i := 1327) ⟨rfl, rfl⟩
set_option maxRecDepth 100000 in
theorem v_w33 : m_word 33 ∈ w_all := w_in (i := 1331) ⟨rfl, rfl⟩
set_option maxRecDepth 100000 in
theorem v_w34 : m_word 34 ∈ w_all := w_in (i := 1117) ⟨rfl, rfl⟩
set_option maxRecDepth 100000 in
theorem v_w35 : m_word 35 ∈ w_all := w_in (i := 1129) ⟨rfl, rfl⟩
set_option maxRecDepth 100000 in
theorem v_w36 : m_word 36 ∈ w_all := w_in (i := 1105) ⟨rfl, rfl⟩
set_option maxRecDepth 100000 in
theorem v_w37 : m_word 37 ∈ w_all := w_in (i := 1109) ⟨rfl, rfl⟩
set_option maxRecDepth 100000 in
theorem v_w38 : m_word 38 ∈ w_all := w_in (i := 1143) ⟨rfl, rfl⟩
set_option maxRecDepth 100000 in
theorem v_w39 : m_word 39 ∈ w_all := w_in (i := 1154) ⟨rfl, rfl⟩
set_option maxRecDepth 100000 in
theorem v_w40 : m_word 40 ∈ w_all := w_in (i := 1021) ⟨rfl, rfl⟩
set_option maxRecDepth 100000 in
theorem v_w41 : m_word 41 ∈ w_all := w_in (i := 1029) ⟨rfl, rfl⟩
set_option maxRecDepth 100000 in
theorem v_w42 : m_word 42 ∈ w_all := w_in (i := 1017) ⟨rfl, rfl⟩
set_option maxRecDepth 100000 in
theorem v_w43 : m_word 43 ∈ w_all := w_in (i := 1025) ⟨rfl, rfl⟩
set_option maxRecDepth 100000 in
theorem v_w44 : m_word 44 ∈ w_all := w_in (i := 1094) ⟨rfl, rfl⟩
set_option maxRecDepth 100000 in
theorem v_w45 : m_word 45 ∈ w_all := w_in (i := 819) ⟨rfl, rfl⟩
set_option maxRecDepth 100000 in
theorem v_w46 : m_word 46 ∈ w_all := w_in (i := 815) ⟨rfl, rfl⟩
set_option maxRecDepth 100000 in
theorem v_w47 : m_word 47 ∈ w_all := w_in (i := 1073) ⟨rfl, rfl⟩
set_option maxRecDepth 100000 in
theorem v_w48 : m_word 48 ∈ w_all := w_in (i := 811) ⟨rfl, rfl⟩
set_option maxRecDepth 100000 in
theorem v_w49 : m_word 49 ∈ w_all := w_in (i := 831) ⟨rfl, rfl⟩
set_option maxRecDepth 100000 in
theorem v_w50 : m_word 50 ∈ w_all := w_in (i := 835) ⟨rfl, rfl⟩
set_option maxRecDepth 100000 in
theorem v_w51 : m_word 51 ∈ w_all := w_in (i := 1170) ⟨rfl, rfl⟩
set_option maxRecDepth 100000 in
theorem v_w52 : m_word 52 ∈ w_all := w_in (i := 142) ⟨rfl, rfl⟩
set_option maxRecDepth 100000 in
theorem v_w53 : m_word 53 ∈ w_all := w_in (i := 497) ⟨rfl, rfl⟩
set_option maxRecDepth 100000 in
theorem v_w54 : m_word 54 ∈ w_all := w_in (i := 501) ⟨rfl, rfl⟩
set_option maxRecDepth 100000 in
theorem v_w55 : m_word 55 ∈ w_all := w_in (i := 598) ⟨rfl, rfl⟩
set_option maxRecDepth 100000 in
theorem v_w56 : m_word 56 ∈ w_all := w_in (i := 698) ⟨rfl, rfl⟩
set_option maxRecDepth 100000 in
theorem v_w57 : m_word 57 ∈ w_all := w_in (i := 703) ⟨rfl, rfl⟩
set_option maxRecDepth 100000 in
theorem v_w58 : m_word 58 ∈ w_all := w_in (i := 713) ⟨rfl, rfl⟩
set_option maxRecDepth 100000 in
theorem v_w59 : m_word 59 ∈ w_all := w_in (i := 685) ⟨rfl, rfl⟩
set_option maxRecDepth 100000 in
theorem v_w60 : m_word 60 ∈ w_all := w_in (i := 629) ⟨rfl, rfl⟩
set_option maxRecDepth 100000 in
theorem v_w61 : m_word 61 ∈ w_all := w_in (i := 693) ⟨rfl, rfl⟩
set_option maxRecDepth 100000 in
theorem v_w62 : m_word 62 ∈ w_all := w_in (i := 689) ⟨rfl, rfl⟩
set_option maxRecDepth 100000 in
theorem v_w63 : m_word 63 ∈ w_all := w_in (i := 633) ⟨rfl, rfl⟩
set_option maxRecDepth 100000 in
theorem v_w64 : m_word 64 ∈ w_all := w_in (i := 618) ⟨rfl, rfl⟩
set_option maxRecDepth 100000 in
theorem v_w65 : m_word 65 ∈ w_all := w_in (i := 621) ⟨rfl, rfl⟩
set_option maxRecDepth 100000 in
theorem v_w66 : m_word 66 ∈ w_all := w_in (i := 624) ⟨rfl, rfl⟩
set_option maxRecDepth 100000 in
theorem v_w67 : m_word 67 ∈ w_all := w_in (i := 246) ⟨rfl, rfl⟩
set_option maxRecDepth 100000 in
theorem v_w68 : m_word 68 ∈ w_all := w_in (i := 753) ⟨rfl, rfl⟩
set_option maxRecDepth 100000 in
theorem v_w69 : m_word 69 ∈ w_all := w_in (i := 807) ⟨rfl, rfl⟩
set_option maxRecDepth 100000 in
theorem v_w70 : m_word 70 ∈ w_all := w_in (i := 1133) ⟨rfl, rfl⟩
set_option maxRecDepth 100000 in
theorem v_w71 : m_word 71 ∈ w_all := w_in (i := 1137) ⟨rfl, rfl⟩
set_option maxRecDepth 100000 in
theorem v_w72 : m_word 72 ∈ w_all := w_in (i := 891) ⟨rfl, rfl⟩
set_option maxRecDepth 100000 in
theorem v_w73 : m_word 73 ∈ w_all := w_in (i := 451) ⟨rfl, rfl⟩
set_option maxRecDepth 100000 in
theorem v_w74 : m_word 74 ∈ w_all := w_in (i := 1265) ⟨rfl, rfl⟩
set_option maxRecDepth 100000 in
theorem v_w75 : m_word 75 ∈ w_all := w_in (i := 1269) ⟨rfl, rfl⟩
set_option maxRecDepth 100000 in
theorem v_w76 : m_word 76 ∈ w_all := w_in (i := 1273) ⟨rfl, rfl⟩
set_option maxRecDepth 100000 in
theorem v_w77 : m_word 77 ∈ w_all := w_in (i := 1285) ⟨rfl, rfl⟩
set_option maxRecDepth 100000 in
theorem v_w78 : m_word 78 ∈ w_all := w_in (i := 192) ⟨rfl, rfl⟩
set_option maxRecDepth 100000 in
theorem v_w79 : m_word 79 ∈ w_all := w_in (i := 741) ⟨rfl, rfl⟩
set_option maxRecDepth 100000 in
theorem v_w80 : m_word 80 ∈ w_all := w_in (i := 606) ⟨rfl, rfl⟩
set_option maxRecDepth 100000 in
theorem v_w81 : m_word 81 ∈ w_all := w_in (i := 614) ⟨rfl, rfl⟩
set_option maxRecDepth 100000 in
theorem v_w82 : m_word 82 ∈ w_all := w_in (i := 610) ⟨rfl, rfl⟩
set_option maxRecDepth 100000 in
theorem v_w83 : m_word 83 ∈ w_all := w_in (i := 1322) ⟨rfl, rfl⟩
set_option maxRecDepth 100000 in
theorem v_w84 : m_word 84 ∈ w_all := w_in (i := 799) ⟨rfl, rfl⟩
set_option maxRecDepth 100000 in
theorem v_w85 : m_word 85 ∈ w_all := w_in (i := 871) ⟨rfl, rfl⟩
set_option maxRecDepth 100000 in
theorem v_w86 : m_word 86 ∈ w_all := w_in (i := 932) ⟨rfl, rfl⟩
set_option maxRecDepth 100000 in
theorem v_w87 : m_word 87 ∈ w_all := w_in (i := 827) ⟨rfl, rfl⟩
set_option maxRecDepth 100000 in
theorem v_w88 : m_word 88 ∈ w_all := w_in (i := 795) ⟨rfl, rfl⟩
set_option maxRecDepth 100000 in
theorem v_w89 : m_word 89 ∈ w_all := w_in (i := 823) ⟨rfl, rfl⟩
set_option maxRecDepth 100000 in
theorem v_w90 : m_word 90 ∈ w_all := w_in (i := 134) ⟨rfl, rfl⟩
set_option maxRecDepth 100000 in
theorem v_w91 : m_word 91 ∈ w_all := w_in (i := 493) ⟨rfl, rfl⟩
set_option maxRecDepth 100000 in
theorem v_w92 : m_word 92 ∈ w_all := w_in (i := 526) ⟨rfl, rfl⟩
set_option maxRecDepth 100000 in
theorem v_w93 : m_word 93 ∈ w_all := w_in (i := 505) ⟨rfl, rfl⟩
set_option maxRecDepth 100000 in
theorem v_w94 : m_word 94 ∈ w_all := w_in (i := 509) ⟨rfl, rfl⟩
set_option maxRecDepth 100000 in
theorem v_w95 : m_word 95 ∈ w_all := w_in (i := 513) ⟨rfl, rfl⟩
set_option maxRecDepth 100000 in
theorem v_w96 : m_word 96 ∈ w_all := w_in (i := 771) ⟨rfl, rfl⟩
set_option maxRecDepth 100000 in
theorem v_w97 : m_word 97 ∈ w_all := w_in (i := 843) ⟨rfl, rfl⟩
set_option maxRecDepth 100000 in
theorem v_w98 : m_word 98 ∈ w_all := w_in (i := 878) ⟨rfl, rfl⟩
set_option maxRecDepth 100000 in
theorem v_w99 : m_word 99 ∈ w_all := w_in (i := 899) ⟨rfl, rfl⟩
set_option maxRecDepth 100000 in
theorem v_w100 : m_word 100 ∈ w_all := w_in (i := 915) ⟨rfl, rfl⟩
set_option maxRecDepth 100000 in
theorem v_w101 : m_word 101 ∈ w_all := w_in (i := 939) ⟨rfl, rfl⟩
set_option maxRecDepth 100000 in
theorem v_w102 : m_word 102 ∈ w_all := w_in (i := 947) ⟨rfl, rfl⟩
set_option maxRecDepth 100000 in
theorem v_w103 : m_word 103 ∈ w_all := w_in (i := 960) ⟨rfl, rfl⟩
set_option maxRecDepth 100000 in
theorem v_w104 : m_word 104 ∈ w_all := w_in (i := 973) ⟨rfl, rfl⟩
set_option maxRecDepth 100000 in
theorem v_w105 : m_word 105 ∈ w_all := w_in (i := 998) ⟨rfl, rfl⟩
set_option maxRecDepth 100000 in
theorem v_w106 : m_word 106 ∈ w_all := w_in (i := 1009) ⟨rfl, rfl⟩
set_option maxRecDepth 100000 in
theorem v_w107 : m_word 107 ∈ w_all := w_in (i := 1038) ⟨rfl, rfl⟩
set_option maxRecDepth 100000 in
theorem v_w108 : m_word 108 ∈ w_all := w_in (i := 1045) ⟨rfl, rfl⟩
set_option maxRecDepth 100000 in
theorem v_w109 : m_word 109 ∈ w_all := w_in (i := 1053) ⟨rfl, rfl⟩
set_option maxRecDepth 100000 in
theorem v_w110 : m_word 110 ∈ w_all := w_in (i := 1061) ⟨rfl, rfl⟩
set_option maxRecDepth 100000 in
theorem v_w111 : m_word 111 ∈ w_all := w_in (i := 1069) ⟨rfl, rfl⟩
set_option maxRecDepth 100000 in
theorem v_w112 : m_word 112 ∈ w_all := w_in (i := 1083) ⟨rfl, rfl⟩
set_option maxRecDepth 100000 in
theorem v_w113 : m_word 113 ∈ w_all := w_in (i := 1090) ⟨rfl, rfl⟩
set_option maxRecDepth 100000 in
theorem v_w114 : m_word 114 ∈ w_all := w_in (i := 1101) ⟨rfl, rfl⟩
set_option maxRecDepth 100000 in
theorem v_w115 : m_word 115 ∈ w_all := w_in (i := 1166) ⟨rfl, rfl⟩
set_option maxRecDepth 100000 in
theorem v_w116 : m_word 116 ∈ w_all := w_in (i := 1177) ⟨rfl, rfl⟩
set_option maxRecDepth 100000 in
theorem v_w117 : m_word 117 ∈ w_all := w_in (i := 1185) ⟨rfl, rfl⟩
set_option maxRecDepth 100000 in
theorem v_w118 : m_word 118 ∈ w_all := w_in (i := 1192) ⟨rfl, rfl⟩
set_option maxRecDepth 100000 in
theorem v_w119 : m_word 119 ∈ w_all := w_in (i := 1199) ⟨rfl, rfl⟩
set_option maxRecDepth 100000 in
theorem v_w120 : m_word 120 ∈ w_all := w_in (i := 1206) ⟨rfl, rfl⟩
set_option maxRecDepth 100000 in
theorem v_w121 : m_word 121 ∈ w_all := w_in (i := 1213) ⟨rfl, rfl⟩
set_option maxRecDepth 100000 in
theorem v_w122 : m_word 122 ∈ w_all := w_in (i := 1220) ⟨rfl, rfl⟩
set_option maxRecDepth 100000 in
theorem v_w123 : m_word 123 ∈ w_all := w_in (i := 1227) ⟨rfl, rfl⟩
set_option maxRecDepth 100000 in
theorem v_w124 : m_word 124 ∈ w_all := w_in (i := 1234) ⟨rfl, rfl⟩
set_option maxRecDepth 100000 in
theorem v_w125 : m_word 125 ∈ w_all := w_in (i := 1241) ⟨rfl, rfl⟩
set_option maxRecDepth 100000 in
theorem v_w126 : m_word 126 ∈ w_all := w_in (i := 1254) ⟨rfl, rfl⟩
set_option maxRecDepth 100000 in
theorem v_w127 : m_word 127 ∈ w_all := w_in (i := 1261) ⟨rfl, rfl⟩
set_option maxRecDepth 100000 in
theorem v_w128 : m_word 128 ∈ w_all := w_in (i := 1281) ⟨rfl, rfl⟩
set_option maxRecDepth 100000 in
theorem v_w129 : m_word 129 ∈ w_all := w_in (i := 1293) ⟨rfl, rfl⟩
set_option maxRecDepth 100000 in
theorem v_w130 : m_word 130 ∈ w_all := w_in (i := 1301) ⟨rfl, rfl⟩
set_option maxRecDepth 100000 in
theorem v_w131 : m_word 131 ∈ w_all := w_in (i := 1338) ⟨rfl, rfl⟩
set_option maxRecDepth 100000 in
theorem v_w132 : m_word 132 ∈ w_all := w_in (i := 1346) ⟨rfl, rfl⟩
set_option maxRecDepth 100000 in
theorem v_w133 : m_word 133 ∈ w_all := w_in (i := 1354) ⟨rfl, rfl⟩
set_option maxRecDepth 100000 in
theorem v_w134 : m_word 134 ∈ w_all := w_in (i := 1362) ⟨rfl, rfl⟩
set_option maxRecDepth 100000 in
theorem v_w135 : m_word 135 ∈ w_all := w_in (i := 1369) ⟨rfl, rfl⟩
set_option maxRecDepth 100000 in
theorem v_w136 : m_word 136 ∈ w_all := w_in (i := 1378) ⟨rfl, rfl⟩
set_option maxRecDepth 100000 in
theorem v_w137 : m_word 137 ∈ w_all := w_in (i := 1390) ⟨rfl, rfl⟩
set_option maxRecDepth 100000 in
theorem v_w138 : m_word 138 ∈ w_all := w_in (i := 1397) ⟨rfl, rfl⟩
set_option maxRecDepth 100000 in
theorem v_w139 : m_word 139 ∈ w_all := w_in (i := 1404) ⟨rfl, rfl⟩
set_option maxRecDepth 100000 in
theorem v_w140 : m_word 140 ∈ w_all := w_in (i := 1415) ⟨rfl, rfl⟩
set_option maxRecDepth 100000 in
theorem v_w141 : m_word 141 ∈ w_all := w_in (i := 517) ⟨rfl, rfl⟩
set_option maxRecDepth 100000 in
theorem v_w142 : m_word 142 ∈ w_all := w_in (i := 1427) ⟨rfl, rfl⟩
set_option maxRecDepth 100000 in
theorem v_w143 : m_word 143 ∈ w_all := w_in (i := 1439) ⟨rfl, rfl⟩
set_option maxRecDepth 100000 in
theorem v_w144 : m_word 144 ∈ w_all := w_in (i := 775) ⟨rfl, rfl⟩
set_option maxRecDepth 100000 in
theorem v_w145 : m_word 145 ∈ w_all := w_in (i := 851) ⟨rfl, rfl⟩
set_option maxRecDepth 100000 in
theorem v_w146 : m_word 146 ∈ w_all := w_in (i := 847) ⟨rfl, rfl⟩
set_option maxRecDepth 100000 in
theorem v_w147 : m_word 147 ∈ w_all := w_in (i := 856) ⟨rfl, rfl⟩
set_option maxRecDepth 100000 in
theorem v_w148 : m_word 148 ∈ w_all := w_in (i := 1431) ⟨rfl, rfl⟩
set_option maxRecDepth 100000 in
theorem v_w149 : m_word 149 ∈ w_all := w_in (i := 861) ⟨rfl, rfl⟩
set_option maxRecDepth 100000 in
theorem v_w150 : m_word 150 ∈ w_all := w_in (i := 903) ⟨rfl, rfl⟩
set_option maxRecDepth 100000 in
theorem v_w151 : m_word 151 ∈ w_all := w_in (i := 1305) ⟨rfl, rfl⟩
set_option maxRecDepth 100000 in
theorem v_w152 : m_word 152 ∈ w_all := w_in (i := 1310) ⟨rfl, rfl⟩
set_option maxRecDepth 100000 in
theorem v_w153 : m_word 153 ∈ w_all := w_in (i := 1445) ⟨rfl, rfl⟩
set_option maxRecDepth 100000 in
theorem v_w154 : m_word 154 ∈ w_all := w_in (i := 1527) ⟨rfl, rfl⟩
set_option maxRecDepth 100000 in
theorem v_w155 : m_word 155 ∈ w_all := w_in (i := 1550) ⟨rfl, rfl⟩
set_option maxRecDepth 100000 in
theorem v_w156 : m_word 156 ∈ w_all := w_in (i := 1644) ⟨rfl, rfl⟩
set_option maxRecDepth 100000 in
theorem v_w157 : m_word 157 ∈ w_all := w_in (i := 1554) ⟨rfl, rfl⟩
set_option maxRecDepth 100000 in
theorem v_w158 : m_word 158 ∈ w_all := w_in (i := 1628) ⟨rfl, rfl⟩
set_option maxRecDepth 100000 in
theorem v_w159 : m_word 159 ∈ w_all := w_in (i := 1809) ⟨rfl, rfl⟩
set_option maxRecDepth 100000 in
theorem v_w160 : m_word 160 ∈ w_all := w_in (i := 1676) ⟨rfl, rfl⟩
set_option maxRecDepth 100000 in
theorem v_w161 : m_word 161 ∈ w_all := w_in (i := 1680) ⟨rfl, rfl⟩
set_option maxRecDepth 100000 in
theorem v_w162 : m_word 162 ∈ w_all := w_in (i := 1757) ⟨rfl, rfl⟩
set_option maxRecDepth 100000 in
theorem v_w163 : m_word 163 ∈ w_all := w_in (i := 1557) ⟨rfl, rfl⟩
set_option maxRecDepth 100000 in
theorem v_w164 : m_word 164 ∈ w_all := w_in (i := 1578) ⟨rfl, rfl⟩
set_option maxRecDepth 100000 in
theorem v_w165 : m_word 165 ∈ w_all := w_in (i := 1641) ⟨rfl, rfl⟩
set_option maxRecDepth 100000 in
theorem v_w166 : m_word 166 ∈ w_all := w_in (i := 1620) ⟨rfl, rfl⟩
set_option maxRecDepth 100000 in
theorem v_w167 : m_word 167 ∈ w_all := w_in (i := 1615) ⟨rfl, rfl⟩
set_option maxRecDepth 100000 in
theorem v_w168 : m_word 168 ∈ w_all := w_in (i := 1886) ⟨rfl, rfl⟩
set_option maxRecDepth 100000 in
theorem v_w169 : m_word 169 ∈ w_all := w_in (i := 1652) ⟨rfl, rfl⟩
set_option maxRecDepth 100000 in
theorem v_w170 : m_word 170 ∈ w_all := w_in (i := 1709) ⟨rfl, rfl⟩
set_option maxRecDepth 100000 in
theorem v_w171 : m_word 171 ∈ w_all := w_in (i := 1721) ⟨rfl, rfl⟩
set_option maxRecDepth 100000 in
theorem v_w172 : m_word 172 ∈ w_all := w_in (i := 1729) ⟨rfl, rfl⟩
set_option maxRecDepth 100000 in
theorem v_w173 : m_word 173 ∈ w_all := w_in (i := 1637) ⟨rfl, rfl⟩
set_option maxRecDepth 100000 in
theorem v_w174 : m_word 174 ∈ w_all := w_in (i := 1902) ⟨rfl, rfl⟩
set_option maxRecDepth 100000 in
theorem v_w175 : m_word 175 ∈ w_all := w_in (i := 1531) ⟨rfl, rfl⟩
set_option maxRecDepth 100000 in
theorem v_w176 : m_word 176 ∈ w_all := w_in (i := 1535) ⟨rfl, rfl⟩
set_option maxRecDepth 100000 in
theorem v_w177 : m_word 177 ∈ w_all := w_in (i := 1539) ⟨rfl, rfl⟩
set_option maxRecDepth 100000 in
theorem v_w178 : m_word 178 ∈ w_all := w_in (i := 1543) ⟨rfl, rfl⟩
set_option maxRecDepth 100000 in
theorem v_w179 : m_word 179 ∈ w_all := w_in (i := 1565) ⟨rfl, rfl⟩
set_option maxRecDepth 100000 in
theorem v_w180 : m_word 180 ∈ w_all := w_in (i := 1568) ⟨rfl, rfl⟩
set_option maxRecDepth 100000 in
theorem v_w181 : m_word 181 ∈ w_all := w_in (i := 1571) ⟨rfl, rfl⟩
set_option maxRecDepth 100000 in
theorem v_w182 : m_word 182 ∈ w_all := w_in (i := 1561) ⟨rfl, rfl⟩
set_option maxRecDepth 100000 in
theorem v_w183 : m_word 183 ∈ w_all := w_in (i := 1593) ⟨rfl, rfl⟩
set_option maxRecDepth 100000 in
theorem v_w184 : m_word 184 ∈ w_all := w_in (i := 1589) ⟨rfl, rfl⟩
set_option maxRecDepth 100000 in
theorem v_w185 : m_word 185 ∈ w_all := w_in (i := 1597) ⟨rfl, rfl⟩
set_option maxRecDepth 100000 in
theorem v_w186 : m_word 186 ∈ w_all := w_in (i := 1583) ⟨rfl, rfl⟩
set_option maxRecDepth 100000 in
theorem v_w187 : m_word 187 ∈ w_all := w_in (i := 1601) ⟨rfl, rfl⟩
set_option maxRecDepth 100000 in
theorem v_w188 : m_word 188 ∈ w_all := w_in (i := 1606) ⟨rfl, rfl⟩
set_option maxRecDepth 100000 in
theorem v_w189 : m_word 189 ∈ w_all := w_in (i := 1611) ⟨rfl, rfl⟩
set_option maxRecDepth 100000 in
theorem v_w190 : m_word 190 ∈ w_all := w_in (i := 1575) ⟨rfl, rfl⟩
set_option maxRecDepth 100000 in
theorem v_w191 : m_word 191 ∈ w_all := w_in (i := 1547) ⟨rfl, rfl⟩
set_option maxRecDepth 100000 in
theorem v_w192 : m_word 192 ∈ w_all := w_in (i := 1926) ⟨rfl, rfl⟩
set_option maxRecDepth 100000 in
theorem v_w193 : m_word 193 ∈ w_all := w_in (i := 1930) ⟨rfl, rfl⟩
set_option maxRecDepth 100000 in
theorem v_w194 : m_word 194 ∈ w_all := w_in (i := 1698) ⟨rfl, rfl⟩
set_option maxRecDepth 100000 in
theorem v_w195 : m_word 195 ∈ w_all := w_in (i := 1703) ⟨rfl, rfl⟩
set_option maxRecDepth 100000 in
theorem v_w196 : m_word 196 ∈ w_all := w_in (i := 1694) ⟨rfl, rfl⟩
set_option maxRecDepth 100000 in
theorem v_w197 : m_word 197 ∈ w_all := w_in (i := 1690) ⟨rfl, rfl⟩
set_option maxRecDepth 100000 in
theorem v_w198 : m_word 198 ∈ w_all := w_in (i := 1713) ⟨rfl, rfl⟩
set_option maxRecDepth 100000 in
theorem v_w199 : m_word 199 ∈ w_all := w_in (i := 1934) ⟨rfl, rfl⟩
set_option maxRecDepth 100000 in
theorem v_w200 : m_word 200 ∈ w_all := w_in (i := 1813) ⟨rfl, rfl⟩
set_option maxRecDepth 100000 in
theorem v_w201 : m_word 201 ∈ w_all := w_in (i := 1898) ⟨rfl, rfl⟩
set_option maxRecDepth 100000 in
theorem v_w202 : m_word 202 ∈ w_all := w_in (i := 1906) ⟨rfl, rfl⟩
set_option maxRecDepth 100000 in
theorem v_w203 : m_word 203 ∈ w_all := w_in (i := 1894) ⟨rfl, rfl⟩
set_option maxRecDepth 100000 in
theorem v_w204 : m_word 204 ∈ w_all := w_in (i := 1890) ⟨rfl, rfl⟩
set_option maxRecDepth 100000 in
theorem v_w205 : m_word 205 ∈ w_all := w_in (i := 1882) ⟨rfl, rfl⟩
set_option maxRecDepth 100000 in
theorem v_w206 : m_word 206 ∈ w_all := w_in (i := 1878) ⟨rfl, rfl⟩
set_option maxRecDepth 100000 in
theorem v_w207 : m_word 207 ∈ w_all := w_in (i := 1922) ⟨rfl, rfl⟩
set_option maxRecDepth 100000 in
theorem v_w208 : m_word 208 ∈ w_all := w_in (i := 1963) ⟨rfl, rfl⟩
set_option maxRecDepth 100000 in
theorem v_w209 : m_word 209 ∈ w_all := w_in (i := 1664) ⟨rfl, rfl⟩
set_option maxRecDepth 100000 in
theorem v_w210 : m_word 210 ∈ w_all := w_in (i := 1660) ⟨rfl, rfl⟩
set_option maxRecDepth 100000 in
theorem v_w211 : m_word 211 ∈ w_all := w_in (i := 1656) ⟨rfl, rfl⟩
set_option maxRecDepth 100000 in
theorem v_w212 : m_word 212 ∈ w_all := w_in (i := 1633) ⟨rfl, rfl⟩
set_option maxRecDepth 100000 in
theorem v_w213 : m_word 213 ∈ w_all := w_in (i := 1648) ⟨rfl, rfl⟩
set_option maxRecDepth 100000 in
theorem v_w214 : m_word 214 ∈ w_all := w_in (i := 1668) ⟨rfl, rfl⟩
set_option maxRecDepth 100000 in
theorem v_w215 : m_word 215 ∈ w_all := w_in (i := 1624) ⟨rfl, rfl⟩
set_option maxRecDepth 100000 in
theorem v_w216 : m_word 216 ∈ w_all := w_in (i := 1672) ⟨rfl, rfl⟩
set_option maxRecDepth 100000 in
theorem v_w217 : m_word 217 ∈ w_all := w_in (i := 1685) ⟨rfl, rfl⟩
set_option maxRecDepth 100000 in
theorem v_w218 : m_word 218 ∈ w_all := w_in (i := 1725) ⟨rfl, rfl⟩
set_option maxRecDepth 100000 in
theorem v_w219 : m_word 219 ∈ w_all := w_in (i := 1733) ⟨rfl, rfl⟩
set_option maxRecDepth 100000 in
theorem v_w220 : m_word 220 ∈ w_all := w_in (i := 1717) ⟨rfl, rfl⟩
set_option maxRecDepth 100000 in
theorem v_w221 : m_word 221 ∈ w_all := w_in (i := 1746) ⟨rfl, rfl⟩
set_option maxRecDepth 100000 in
theorem v_w222 : m_word 222 ∈ w_all := w_in (i := 1742) ⟨rfl, rfl⟩
set_option maxRecDepth 100000 in
theorem v_w223 : m_word 223 ∈ w_all := w_in (i := 1737) ⟨rfl, rfl⟩
set_option maxRecDepth 100000 in
theorem v_w224 : m_word 224 ∈ w_all := w_in (i := 1754) ⟨rfl, rfl⟩
set_option maxRecDepth 100000 in
theorem v_w225 : m_word 225 ∈ w_all := w_in (i := 1750) ⟨rfl, rfl⟩
set_option maxRecDepth 100000 in
theorem v_w226 : m_word 226 ∈ w_all := w_in (i := 1763) ⟨rfl, rfl⟩
set_option maxRecDepth 100000 in
theorem v_w227 : m_word 227 ∈ w_all := w_in (i := 1771) ⟨rfl, rfl⟩
set_option maxRecDepth 100000 in
theorem v_w228 : m_word 228 ∈ w_all := w_in (i := 1767) ⟨rfl, rfl⟩
set_option maxRecDepth 100000 in
theorem v_w229 : m_word 229 ∈ w_all := w_in (i := 1796) ⟨rfl, rfl⟩
set_option maxRecDepth 100000 in
theorem v_w230 : m_word 230 ∈ w_all := w_in (i := 1792) ⟨rfl, rfl⟩
set_option maxRecDepth 100000 in
theorem v_w231 : m_word 231 ∈ w_all := w_in (i := 1787) ⟨rfl, rfl⟩
set_option maxRecDepth 100000 in
theorem v_w232 : m_word 232 ∈ w_all := w_in (i := 1783) ⟨rfl, rfl⟩
set_option maxRecDepth 100000 in
theorem v_w233 : m_word 233 ∈ w_all := w_in (i := 1779) ⟨rfl, rfl⟩
set_option maxRecDepth 100000 in
theorem v_w234 : m_word 234 ∈ w_all := w_in (i := 1775) ⟨rfl, rfl⟩
set_option maxRecDepth 100000 in
theorem v_w235 : m_word 235 ∈ w_all := w_in (i := 1800) ⟨rfl, rfl⟩
set_option maxRecDepth 100000 in
theorem v_w236 : m_word 236 ∈ w_all := w_in (i := 1825) ⟨rfl, rfl⟩
set_option maxRecDepth 100000 in
theorem v_w237 : m_word 237 ∈ w_all := w_in (i := 1821) ⟨rfl, rfl⟩
set_option maxRecDepth 100000 in
theorem v_w238 : m_word 238 ∈ w_all := w_in (i := 1817) ⟨rfl, rfl⟩
set_option maxRecDepth 100000 in
theorem v_w239 : m_word 239 ∈ w_all := w_in (i := 1805) ⟨rfl, rfl⟩
set_option maxRecDepth 100000 in
theorem v_w240 : m_word 240 ∈ w_all := w_in (i := 1829) ⟨rfl, rfl⟩
set_option maxRecDepth 100000 in
theorem v_w241 : m_word 241 ∈ w_all := w_in (i := 1833) ⟨rfl, rfl⟩
set_option maxRecDepth 100000 in
theorem v_w242 : m_word 242 ∈ w_all := w_in (i := 1837) ⟨rfl, rfl⟩
set_option maxRecDepth 100000 in
theorem v_w243 : m_word 243 ∈ w_all := w_in (i := 1841) ⟨rfl, rfl⟩
set_option maxRecDepth 100000 in
theorem v_w244 : m_word 244 ∈ w_all := w_in (i := 1849) ⟨rfl, rfl⟩
set_option maxRecDepth 100000 in
theorem v_w245 : m_word 245 ∈ w_all := w_in (i := 1845) ⟨rfl, rfl⟩
set_option maxRecDepth 100000 in
theorem v_w246 : m_word 246 ∈ w_all := w_in (i := 1853) ⟨rfl, rfl⟩
set_option maxRecDepth 100000 in
theorem v_w247 : m_word 247 ∈ w_all := w_in (i := 1861) ⟨rfl, rfl⟩
set_option maxRecDepth 100000 in
theorem v_w248 : m_word 248 ∈ w_all := w_in (i := 1857) ⟨rfl, rfl⟩
set_option maxRecDepth 100000 in
theorem v_w249 : m_word 249 ∈ w_all := w_in (i := 1874) ⟨rfl, rfl⟩
set_option maxRecDepth 100000 in
theorem v_w250 : m_word 250 ∈ w_all := w_in (i := 1865) ⟨rfl, rfl⟩
set_option maxRecDepth 100000 in
theorem v_w251 : m_word 251 ∈ w_all := w_in (i := 1869) ⟨rfl, rfl⟩
set_option maxRecDepth 100000 in
theorem v_w252 : m_word 252 ∈ w_all := w_in (i := 1910) ⟨rfl, rfl⟩
set_option maxRecDepth 100000 in
theorem v_w253 : m_word 253 ∈ w_all := w_in (i := 1918) ⟨rfl, rfl⟩
set_option maxRecDepth 100000 in
theorem v_w254 : m_word 254 ∈ w_all := w_in (i := 1914) ⟨rfl, rfl⟩
set_option maxRecDepth 100000 in
theorem v_w255 : m_word 255 ∈ w_all := w_in (i := 1942) ⟨rfl, rfl⟩
set_option maxRecDepth 100000 in
theorem v_w256 : m_word 256 ∈ w_all := w_in (i := 1938) ⟨rfl, rfl⟩
set_option maxRecDepth 100000 in
theorem v_w257 : m_word 257 ∈ w_all := w_in (i := 1950) ⟨rfl, rfl⟩
set_option maxRecDepth 100000 in
theorem v_w258 : m_word 258 ∈ w_all := w_in (i := 1946) ⟨rfl, rfl⟩
set_option maxRecDepth 100000 in
theorem v_w259 : m_word 259 ∈ w_all := w_in (i := 1958) ⟨rfl, rfl⟩
set_option maxRecDepth 100000 in
theorem v_w260 : m_word 260 ∈ w_all := w_in (i := 1954) ⟨rfl, rfl⟩
set_option maxRecDepth 100000 in
theorem v_w261 : m_word 261 ∈ w_all := w_in (i := 1967) ⟨rfl, rfl⟩
set_option maxRecDepth 100000 in
theorem v_w262 : m_word 262 ∈ w_all := w_in (i := 1975) ⟨rfl, rfl⟩
set_option maxRecDepth 100000 in
theorem v_w263 : m_word 263 ∈ w_all := w_in (i := 1971) ⟨rfl, rfl⟩
set_option maxRecDepth 100000 in
theorem v_w264 : m_word 264 ∈ w_all := w_in (i := 1979) ⟨rfl, rfl⟩
set_option maxRecDepth 100000 in
theorem v_w265 : m_word 265 ∈ w_all := w_in (i := 1983) ⟨rfl, rfl⟩
set_option maxRecDepth 100000 in
theorem v_w266 : m_word 266 ∈ w_all := w_in (i := 1992) ⟨rfl, rfl⟩
set_option maxRecDepth 100000 in
theorem v_w267 : m_word 267 ∈ w_all := w_in (i := 1987) ⟨rfl, rfl⟩
set_option maxRecDepth 100000 in
theorem v_w268 : m_word 268 ∈ w_all := w_in (i := 1996) ⟨rfl, rfl⟩
set_option maxRecDepth 100000 in
theorem v_w269 : m_word 269 ∈ w_all := w_in (i := 2000) ⟨rfl, rfl⟩
set_option maxRecDepth 100000 in
theorem v_w270 : m_word 270 ∈ w_all := w_in (i := 2004) ⟨rfl, rfl⟩
set_option maxRecDepth 100000 in
theorem v_w271 : m_word 271 ∈ w_all := w_in (i := 2012) ⟨rfl, rfl⟩
set_option maxRecDepth 100000 in
theorem v_w272 : m_word 272 ∈ w_all := w_in (i := 2016) ⟨rfl, rfl⟩
set_option maxRecDepth 100000 in
theorem v_w273 : m_word 273 ∈ w_all := w_in (i := 2008) ⟨rfl, rfl⟩
set_option maxRecDepth 100000 in
theorem v_w274 : m_word 274 ∈ w_all := w_in (i := 2020) ⟨rfl, rfl⟩
set_option maxRecDepth 100000 in
theorem v_w275 : m_word 275 ∈ w_all := w_in (i := 2024) ⟨rfl, rfl⟩
set_option maxRecDepth 100000 in
theorem v_w276 : m_word 276 ∈ w_all := w_in (i := 2044) ⟨rfl, rfl⟩
set_option maxRecDepth 100000 in
theorem v_w277 : m_word 277 ∈ w_all := w_in (i := 2039) ⟨rfl, rfl⟩
set_option maxRecDepth 100000 in
theorem v_w278 : m_word 278 ∈ w_all := w_in (i := 2036) ⟨rfl, rfl⟩
set_option maxRecDepth 100000 in
theorem v_w279 : m_word 279 ∈ w_all := w_in (i := 2048) ⟨rfl, rfl⟩
set_option maxRecDepth 100000 in
theorem v_w280 : m_word 280 ∈ w_all := w_in (i := 2031) ⟨rfl, rfl⟩
set_option maxRecDepth 100000 in
theorem v_w281 : m_word 281 ∈ w_all := w_in (i := 2028) ⟨rfl, rfl⟩
set_option maxRecDepth 100000 in
theorem v_w282 : m_word 282 ∈ w_all := w_in (i := 2052) ⟨rfl, rfl⟩
set_option maxRecDepth 100000 in
theorem v_w283 : m_word 283 ∈ w_all := w_in (i := 2056) ⟨rfl, rfl⟩
set_option maxRecDepth 100000 in
theorem v_w284 : m_word 284 ∈ w_all := w_in (i := 2060) ⟨rfl, rfl⟩
set_option maxRecDepth 100000 in
theorem v_w285 : m_word 285 ∈ w_all := w_in (i := 2064) ⟨rfl, rfl⟩
set_option maxRecDepth 100000 in
theorem v_w286 : m_word 286 ∈ w_all := w_in (i := 2069) ⟨rfl, rfl⟩
set_option maxRecDepth 100000 in
theorem v_w287 : m_word 287 ∈ w_all := w_in (i := 2074) ⟨rfl, rfl⟩
set_option maxRecDepth 100000 in
theorem v_w288 : m_word 288 ∈ w_all := w_in (i := 2078) ⟨rfl, rfl⟩
set_option maxRecDepth 100000 in
theorem v_w289 : m_word 289 ∈ w_all := w_in (i := 2083) ⟨rfl, rfl⟩
set_option maxRecDepth 100000 in
theorem v_w290 : m_word 290 ∈ w_all := w_in (i := 2087) ⟨rfl, rfl⟩
set_option maxRecDepth 100000 in
theorem v_w291 : m_word 291 ∈ w_all := w_in (i := 2091) ⟨rfl, rfl⟩
set_option maxRecDepth 100000 in
theorem v_w292 : m_word 292 ∈ w_all := w_in (i := 2095) ⟨rfl, rfl⟩
set_option maxRecDepth 100000 in
theorem v_w293 : m_word 293 ∈ w_all := w_in (i := 2099) ⟨rfl, rfl⟩
set_option maxRecDepth 100000 in
theorem v_w294 : m_word 294 ∈ w_all := w_in (i := 2103) ⟨rfl, rfl⟩
set_option maxRecDepth 100000 in
theorem v_w295 : m_word 295 ∈ w_all := w_in (i := 928) ⟨rfl, rfl⟩
set_option maxRecDepth 100000 in
theorem v_w296 : m_word 296 ∈ w_all := w_in (i := 921) ⟨rfl, rfl⟩
set_option maxRecDepth 100000 in
theorem v_w297 : m_word 297 ∈ w_all := w_in (i := 918) ⟨rfl, rfl⟩
set_option maxRecDepth 100000 in
theorem v_w298 : m_word 298 ∈ w_all := w_in (i := 1076) ⟨rfl, rfl⟩
set_option maxRecDepth 100000 in
theorem v_w299 : m_word 299 ∈ w_all := w_in (i := 950) ⟨rfl, rfl⟩
set_option maxRecDepth 100000 in
theorem v_w300 : m_word 300 ∈ w_all := w_in (i := 963) ⟨rfl, rfl⟩
set_option maxRecDepth 100000 in
theorem v_w301 : m_word 301 ∈ w_all := w_in (i := 966) ⟨rfl, rfl⟩
set_option maxRecDepth 100000 in
theorem v_w302 : m_word 302 ∈ w_all := w_in (i := 520) ⟨rfl, rfl⟩
set_option maxRecDepth 100000 in
theorem v_w303 : m_word 303 ∈ w_all := w_in (i := 766) ⟨rfl, rfl⟩
set_option maxRecDepth 100000 in
theorem v_w304 : m_word 304 ∈ w_all := w_in (i := 839) ⟨rfl, rfl⟩
set_option maxRecDepth 100000 in
theorem v_w305 : m_word 305 ∈ w_all := w_in (i := 874) ⟨rfl, rfl⟩
set_option maxRecDepth 100000 in
theorem v_w306 : m_word 306 ∈ w_all := w_in (i := 895) ⟨rfl, rfl⟩
set_option maxRecDepth 100000 in
theorem v_w307 : m_word 307 ∈ w_all := w_in (i := 911) ⟨rfl, rfl⟩
set_option maxRecDepth 100000 in
theorem v_w308 : m_word 308 ∈ w_all := w_in (i := 935) ⟨rfl, rfl⟩
set_option maxRecDepth 100000 in
theorem v_w309 : m_word 309 ∈ w_all := w_in (i := 943) ⟨rfl, rfl⟩
set_option maxRecDepth 100000 in
theorem v_w310 : m_word 310 ∈ w_all := w_in (i := 956) ⟨rfl, rfl⟩
set_option maxRecDepth 100000 in
theorem v_w311 : m_word 311 ∈ w_all := w_in (i := 969) ⟨rfl, rfl⟩
set_option maxRecDepth 100000 in
theorem v_w312 : m_word 312 ∈ w_all := w_in (i := 994) ⟨rfl, rfl⟩
set_option maxRecDepth 100000 in
theorem v_w313 : m_word 313 ∈ w_all := w_in (i := 1005) ⟨rfl, rfl⟩
set_option maxRecDepth 100000 in
theorem v_w314 : m_word 314 ∈ w_all := w_in (i := 1034) ⟨rfl, rfl⟩
set_option maxRecDepth 100000 in
theorem v_w315 : m_word 315 ∈ w_all := w_in (i := 1041) ⟨rfl, rfl⟩
set_option maxRecDepth 100000 in
theorem v_w316 : m_word 316 ∈ w_all := w_in (i := 1049) ⟨rfl, rfl⟩
set_option maxRecDepth 100000 in
theorem v_w317 : m_word 317 ∈ w_all := w_in (i := 1057) ⟨rfl, rfl⟩
set_option maxRecDepth 100000 in
theorem v_w318 : m_word 318 ∈ w_all := w_in (i := 1065) ⟨rfl, rfl⟩
set_option maxRecDepth 100000 in
theorem v_w319 : m_word 319 ∈ w_all := w_in (i := 1079) ⟨rfl, rfl⟩
set_option maxRecDepth 100000 in
theorem v_w320 : m_word 320 ∈ w_all := w_in (i := 1086) ⟨rfl, rfl⟩
set_option maxRecDepth 100000 in
theorem v_w321 : m_word 321 ∈ w_all := w_in (i := 1097) ⟨rfl, rfl⟩
set_option maxRecDepth 100000 in
theorem v_w322 : m_word 322 ∈ w_all := w_in (i := 1162) ⟨rfl, rfl⟩
set_option maxRecDepth 100000 in
theorem v_w323 : m_word 323 ∈ w_all := w_in (i := 1173) ⟨rfl, rfl⟩
set_option maxRecDepth 100000 in
theorem v_w324 : m_word 324 ∈ w_all := w_in (i := 1181) ⟨rfl, rfl⟩
set_option maxRecDepth 100000 in
theorem v_w325 : m_word 325 ∈ w_all := w_in (i := 1188) ⟨rfl, rfl⟩
set_option maxRecDepth 100000 in
theorem v_w326 : m_word 326 ∈ w_all := w_in (i := 1195) ⟨rfl, rfl⟩
set_option maxRecDepth 100000 in
theorem v_w327 : m_word 327 ∈ w_all := w_in (i := 1202) ⟨rfl, rfl⟩
set_option maxRecDepth 100000 in
theorem v_w328 : m_word 328 ∈ w_all := w_in (i := 1209) ⟨rfl, rfl⟩
set_option maxRecDepth 100000 in
theorem v_w329 : m_word 329 ∈ w_all := w_in (i := 1216) ⟨rfl, rfl⟩
set_option maxRecDepth 100000 in
theorem v_w330 : m_word 330 ∈ w_all := w_in (i := 1223) ⟨rfl, rfl⟩
set_option maxRecDepth 100000 in
theorem v_w331 : m_word 331 ∈ w_all := w_in (i := 1230) ⟨rfl, rfl⟩
set_option maxRecDepth 100000 in
theorem v_w332 : m_word 332 ∈ w_all := w_in (i := 1237) ⟨rfl, rfl⟩
set_option maxRecDepth 100000 in
theorem v_w333 : m_word 333 ∈ w_all := w_in (i := 1250) ⟨rfl, rfl⟩
set_option maxRecDepth 100000 in
theorem v_w334 : m_word 334 ∈ w_all := w_in (i := 1257) ⟨rfl, rfl⟩
set_option maxRecDepth 100000 in
theorem v_w335 : m_word 335 ∈ w_all := w_in (i := 1277) ⟨rfl, rfl⟩
set_option maxRecDepth 100000 in
theorem v_w336 : m_word 336 ∈ w_all := w_in (i := 1289) ⟨rfl, rfl⟩
set_option maxRecDepth 100000 in
theorem v_w337 : m_word 337 ∈ w_all := w_in (i := 1297) ⟨rfl, rfl⟩
set_option maxRecDepth 100000 in
theorem v_w338 : m_word 338 ∈ w_all := w_in (i := 1334) ⟨rfl, rfl⟩
set_option maxRecDepth 100000 in
theorem v_w339 : m_word 339 ∈ w_all := w_in (i := 1342) ⟨rfl, rfl⟩
set_option maxRecDepth 100000 in
theorem v_w340 : m_word 340 ∈ w_all := w_in (i := 1350) ⟨rfl, rfl⟩
set_option maxRecDepth 100000 in
theorem v_w341 : m_word 341 ∈ w_all := w_in (i := 1358) ⟨rfl, rfl⟩
set_option maxRecDepth 100000 in
theorem v_w342 : m_word 342 ∈ w_all := w_in (i := 1365) ⟨rfl, rfl⟩
set_option maxRecDepth 100000 in
theorem v_w343 : m_word 343 ∈ w_all := w_in (i := 1374) ⟨rfl, rfl⟩
set_option maxRecDepth 100000 in
theorem v_w344 : m_word 344 ∈ w_all := w_in (i := 1386) ⟨rfl, rfl⟩
set_option maxRecDepth 100000 in
theorem v_w345 : m_word 345 ∈ w_all := w_in (i := 1393) ⟨rfl, rfl⟩
set_option maxRecDepth 100000 in
theorem v_w346 : m_word 346 ∈ w_all := w_in (i := 1400) ⟨rfl, rfl⟩
set_option maxRecDepth 100000 in
theorem v_w347 : m_word 347 ∈ w_all := w_in (i := 1411) ⟨rfl, rfl⟩
set_option maxRecDepth 100000 in
theorem v_w348 : m_word 348 ∈ w_all := w_in (i := 1423) ⟨rfl, rfl⟩
set_option maxRecDepth 100000 in
theorem v_w349 : m_word 349 ∈ w_all := w_in (i := 1435) ⟨rfl, rfl⟩
set_option maxRecDepth 100000 in
theorem v_w351 : m_word 351 ∈ w_all := w_in (i := 1244) ⟨rfl, rfl⟩
set_option maxRecDepth 100000 in
theorem v_w352 : m_word 352 ∈ w_all := w_in (i := 637) ⟨rfl, rfl⟩
set_option maxRecDepth 100000 in
theorem v_w353 : m_word 353 ∈ w_all := w_in (i := 647) ⟨rfl, rfl⟩
set_option maxRecDepth 100000 in
theorem v_w354 : m_word 354 ∈ w_all := w_in (i := 641) ⟨rfl, rfl⟩
set_option maxRecDepth 100000 in
theorem v_w355 : m_word 355 ∈ w_all := w_in (i := 651) ⟨rfl, rfl⟩
set_option maxRecDepth 100000 in
theorem v_w356 : m_word 356 ∈ w_all := w_in (i := 657) ⟨rfl, rfl⟩
set_option maxRecDepth 100000 in
theorem v_w357 : m_word 357 ∈ w_all := w_in (i := 654) ⟨rfl, rfl⟩
set_option maxRecDepth 100000 in
theorem v_w358 : m_word 358 ∈ w_all := w_in (i := 662) ⟨rfl, rfl⟩
theorem v_code_0 : ∀ m, m < 40 → 0 + m ≠ 350 → m_word (0 + m) ∈ w_all := fun m h h2 => match m, h, h2 with
  | 0, _, _ => v_w0
  | 1, _, _ => v_w1
  | 2, _, _ => v_w2
  | 3, _, _ => v_w3
  | 4, _, _ => v_w4
  | 5, _, _ => v_w5
  | 6, _, _ => v_w6
  | 7, _, _ => v_w7
  | 8, _, _ => v_w8
  | 9, _, _ => v_w9
  | 10, _, _ => v_w10
  | 11, _, _ => v_w11
  | 12, _, _ => v_w12
  | 13, _, _ => v_w13
  | 14, _, _ => v_w14
  | 15, _, _ => v_w15
  | 16, _, _ => v_w16
  | 17, _, _ => v_w17
  | 18, _, _ => v_w18
  | 19, _, _ => v_w19
  | 20, _, _ => v_w20
  | 21, _, _ => v_w21
  | 22, _, _ => v_w22
  | 23, _, _ => v_w23
  | 24, _, _ => v_w24
  | 25, _, _ => v_w25
  | 26, _, _ => v_w26
  | 27, _, _ => v_w27
  | 28, _, _ => v_w28
  | 29, _, _ => v_w29
  | 30, _, _ => v_w30
  | 31, _, _ => v_w31
  | 32, _, _ => v_w32
  | 33, _, _ => v_w33
  | 34, _, _ => v_w34
  | 35, _, _ => v_w35
  | 36, _, _ => v_w36
  | 37, _, _ => v_w37
  | 38, _, _ => v_w38
  | 39, _, _ => v_w39
  | n + 40, h, _ => absurd h (by omega)
theorem v_code_1 : ∀ m, m < 40 → 40 + m ≠ 350 → m_word (40 + m) ∈ w_all := fun m h h2 => match m, h, h2 with
  | 0, _, _ => v_w40
  | 1, _, _ => v_w41
  | 2, _, _ => v_w42
  | 3, _, _ => v_w43
  | 4, _, _ => v_w44
  | 5, _, _ => v_w45
  | 6, _, _ => v_w46
  | 7, _, _ => v_w47
  | 8, _, _ => v_w48
  | 9, _, _ => v_w49
  | 10, _, _ => v_w50
  | 11, _, _ => v_w51
  | 12, _, _ => v_w52
  | 13, _, _ => v_w53
  | 14, _, _ => v_w54
  | 15, _, _ => v_w55
  | 16, _, _ => v_w56
  | 17, _, _ => v_w57
  | 18, _, _ => v_w58
  | 19, _, _ => v_w59
  | 20, _, _ => v_w60
  | 21, _, _ => v_w61
  | 22, _, _ => v_w62
  | 23, _, _ => v_w63
  | 24, _, _ => v_w64
  | 25, _, _ => v_w65
  | 26, _, _ => v_w66
  | 27, _, _ => v_w67
  | 28, _, _ => v_w68
  | 29, _, _ => v_w69
  | 30, _, _ => v_w70
  | 31, _, _ => v_w71
  | 32, _, _ => v_w72
  | 33, _, _ => v_w73
  | 34, _, _ => v_w74
  | 35, _, _ => v_w75
  | 36, _, _ => v_w76
  | 37, _, _ => v_w77
  | 38, _, _ => v_w78
  | 39, _, _ => v_w79
  | n + 40, h, _ => absurd h (by omega)
theorem v_code_2 : ∀ m, m < 40 → 80 + m ≠ 350 → m_word (80 + m) ∈ w_all := fun m h h2 => match m, h, h2 with
  | 0, _, _ => v_w80
  | 1, _, _ => v_w81
  | 2, _, _ => v_w82
  | 3, _, _ => v_w83
  | 4, _, _ => v_w84
  | 5, _, _ => v_w85
  | 6, _, _ => v_w86
  | 7, _, _ => v_w87
  | 8, _, _ => v_w88
  | 9, _, _ => v_w89
  | 10, _, _ => v_w90
  | 11, _, _ => v_w91
  | 12, _, _ => v_w92
  | 13, _, _ => v_w93
  | 14, _, _ => v_w94
  | 15, _, _ => v_w95
  | 16, _, _ => v_w96
  | 17, _, _ => v_w97
  | 18, _, _ => v_w98
  | 19, _, _ => v_w99
  | 20, _, _ => v_w100
  | 21, _, _ => v_w101
  | 22, _, _ => v_w102
  | 23, _, _ => v_w103
  | 24, _, _ => v_w104
  | 25, _, _ => v_w105
  | 26, _, _ => v_w106
  | 27, _, _ => v_w107
  | 28, _, _ => v_w108
  | 29, _, _ => v_w109
  | 30, _, _ => v_w110
  | 31, _, _ => v_w111
  | 32, _, _ => v_w112
  | 33, _, _ => v_w113
  | 34, _, _ => v_w114
  | 35, _, _ => v_w115
  | 36, _, _ => v_w116
  | 37, _, _ => v_w117
  | 38, _, _ => v_w118
  | 39, _, _ => v_w119
  | n + 40, h, _ => absurd h (by omega)
theorem v_code_3 : ∀ m, m < 40 → 120 + m ≠ 350 → m_word (120 + m) ∈ w_all := fun m h h2 => match m, h, h2 with
  | 0, _, _ => v_w120
  | 1, _, _ => v_w121
  | 2, _, _ => v_w122
  | 3, _, _ => v_w123
  | 4, _, _ => v_w124
  | 5, _, _ => v_w125
  | 6, _, _ => v_w126
  | 7, _, _ => v_w127
  | 8, _, _ => v_w128
  | 9, _, _ => v_w129
  | 10, _, _ => v_w130
  | 11, _, _ => v_w131
  | 12, _, _ => v_w132
  | 13, _, _ => v_w133
  | 14, _, _ => v_w134
  | 15, _, _ => v_w135
  | 16, _, _ => v_w136
  | 17, _, _ => v_w137
  | 18, _, _ => v_w138
  | 19, _, _ => v_w139
  | 20, _, _ => v_w140
  | 21, _, _ => v_w141
  | 22, _, _ => v_w142
  | 23, _, _ => v_w143
  | 24, _, _ => v_w144
  | 25, _, _ => v_w145
  | 26, _, _ => v_w146
  | 27, _, _ => v_w147
  | 28, _, _ => v_w148
  | 29, _, _ => v_w149
  | 30, _, _ => v_w150
  | 31, _, _ => v_w151
  | 32, _, _ => v_w152
  | 33, _, _ => v_w153
  | 34, _, _ => v_w154
  | 35, _, _ => v_w155
  | 36, _, _ => v_w156
  | 37, _, _ => v_w157
  | 38, _, _ => v_w158
  | 39, _, _ => v_w159
  | n + 40, h, _ => absurd h (by omega)
theorem v_code_4 : ∀ m, m < 40 → 160 + m ≠ 350 → m_word (160 + m) ∈ w_all := fun m h h2 => match m, h, h2 with
  | 0, _, _ => v_w160
  | 1, _, _ => v_w161
  | 2, _, _ => v_w162
  | 3, _, _ => v_w163
  | 4, _, _ => v_w164
  | 5, _, _ => v_w165
  | 6, _, _ => v_w166
  | 7, _, _ => v_w167
  | 8, _, _ => v_w168
  | 9, _, _ => v_w169
  | 10, _, _ => v_w170
  | 11, _, _ => v_w171
  | 12, _, _ => v_w172
  | 13, _, _ => v_w173
  | 14, _, _ => v_w174
  | 15, _, _ => v_w175
  | 16, _, _ => v_w176
  | 17, _, _ => v_w177
  | 18, _, _ => v_w178
  | 19, _, _ => v_w179
  | 20, _, _ => v_w180
  | 21, _, _ => v_w181
  | 22, _, _ => v_w182
  | 23, _, _ => v_w183
  | 24, _, _ => v_w184
  | 25, _, _ => v_w185
  | 26, _, _ => v_w186
  | 27, _, _ => v_w187
  | 28, _, _ => v_w188
  | 29, _, _ => v_w189
  | 30, _, _ => v_w190
  | 31, _, _ => v_w191
  | 32, _, _ => v_w192
  | 33, _, _ => v_w193
  | 34, _, _ => v_w194
  | 35, _, _ => v_w195
  | 36, _, _ => v_w196
  | 37, _, _ => v_w197
  | 38, _, _ => v_w198
  | 39, _, _ => v_w199
  | n + 40, h, _ => absurd h (by omega)
theorem v_code_5 : ∀ m, m < 40 → 200 + m ≠ 350 → m_word (200 + m) ∈ w_all := fun m h h2 => match m, h, h2 with
  | 0, _, _ => v_w200
  | 1, _, _ => v_w201
  | 2, _, _ => v_w202
  | 3, _, _ => v_w203
  | 4, _, _ => v_w204
  | 5, _, _ => v_w205
  | 6, _, _ => v_w206
  | 7, _, _ => v_w207
  | 8, _, _ => v_w208
  | 9, _, _ => v_w209
  | 10, _, _ => v_w210
  | 11, _, _ => v_w211
  | 12, _, _ => v_w212
  | 13, _, _ => v_w213
  | 14, _, _ => v_w214
  | 15, _, _ => v_w215
  | 16, _, _ => v_w216
  | 17, _, _ => v_w217
  | 18, _, _ => v_w218
  | 19, _, _ => v_w219
  | 20, _, _ => v_w220
  | 21, _, _ => v_w221
  | 22, _, _ => v_w222
  | 23, _, _ => v_w223
  | 24, _, _ => v_w224
  | 25, _, _ => v_w225
  | 26, _, _ => v_w226
  | 27, _, _ => v_w227
  | 28, _, _ => v_w228
  | 29, _, _ => v_w229
  | 30, _, _ => v_w230
  | 31, _, _ => v_w231
  | 32, _, _ => v_w232
  | 33, _, _ => v_w233
  | 34, _, _ => v_w234
  | 35, _, _ => v_w235
  | 36, _, _ => v_w236
  | 37, _, _ => v_w237
  | 38, _, _ => v_w238
  | 39, _, _ => v_w239
  | n + 40, h, _ => absurd h (by omega)
theorem v_code_6 : ∀ m, m < 40 → 240 + m ≠ 350 → m_word (240 + m) ∈ w_all := fun m h h2 => match m, h, h2 with
  | 0, _, _ => v_w240
  | 1, _, _ => v_w241
  | 2, _, _ => v_w242
  | 3, _, _ => v_w243
  | 4, _, _ => v_w244
  | 5, _, _ => v_w245
  | 6, _, _ => v_w246
  | 7, _, _ => v_w247
  | 8, _, _ => v_w248
  | 9, _, _ => v_w249
  | 10, _, _ => v_w250
  | 11, _, _ => v_w251
  | 12, _, _ => v_w252
  | 13, _, _ => v_w253
  | 14, _, _ => v_w254
  | 15, _, _ => v_w255
  | 16, _, _ => v_w256
  | 17, _, _ => v_w257
  | 18, _, _ => v_w258
  | 19, _, _ => v_w259
  | 20, _, _ => v_w260
  | 21, _, _ => v_w261
  | 22, _, _ => v_w262
  | 23, _, _ => v_w263
  | 24, _, _ => v_w264
  | 25, _, _ => v_w265
  | 26, _, _ => v_w266
  | 27, _, _ => v_w267
  | 28, _, _ => v_w268
  | 29, _, _ => v_w269
  | 30, _, _ => v_w270
  | 31, _, _ => v_w271
  | 32, _, _ => v_w272
  | 33, _, _ => v_w273
  | 34, _, _ => v_w274
  | 35, _, _ => v_w275
  | 36, _, _ => v_w276
  | 37, _, _ => v_w277
  | 38, _, _ => v_w278
  | 39, _, _ => v_w279
  | n + 40, h, _ => absurd h (by omega)
theorem v_code_7 : ∀ m, m < 40 → 280 + m ≠ 350 → m_word (280 + m) ∈ w_all := fun m h h2 => match m, h, h2 with
  | 0, _, _ => v_w280
  | 1, _, _ => v_w281
  | 2, _, _ => v_w282
  | 3, _, _ => v_w283
  | 4, _, _ => v_w284
  | 5, _, _ => v_w285
  | 6, _, _ => v_w286
  | 7, _, _ => v_w287
  | 8, _, _ => v_w288
  | 9, _, _ => v_w289
  | 10, _, _ => v_w290
  | 11, _, _ => v_w291
  | 12, _, _ => v_w292
  | 13, _, _ => v_w293
  | 14, _, _ => v_w294
  | 15, _, _ => v_w295
  | 16, _, _ => v_w296
  | 17, _, _ => v_w297
  | 18, _, _ => v_w298
  | 19, _, _ => v_w299
  | 20, _, _ => v_w300
  | 21, _, _ => v_w301
  | 22, _, _ => v_w302
  | 23, _, _ => v_w303
  | 24, _, _ => v_w304
  | 25, _, _ => v_w305
  | 26, _, _ => v_w306
  | 27, _, _ => v_w307
  | 28, _, _ => v_w308
  | 29, _, _ => v_w309
  | 30, _, _ => v_w310
  | 31, _, _ => v_w311
  | 32, _, _ => v_w312
  | 33, _, _ => v_w313
  | 34, _, _ => v_w314
  | 35, _, _ => v_w315
  | 36, _, _ => v_w316
  | 37, _, _ => v_w317
  | 38, _, _ => v_w318
  | 39, _, _ => v_w319
  | n + 40, h, _ => absurd h (by omega)
theorem v_code_8 : ∀ m, m < 39 → 320 + m ≠ 350 → m_word (320 + m) ∈ w_all := fun m h h2 => match m, h, h2 with
  | 0, _, _ => v_w320
  | 1, _, _ => v_w321
  | 2, _, _ => v_w322
  | 3, _, _ => v_w323
  | 4, _, _ => v_w324
  | 5, _, _ => v_w325
  | 6, _, _ => v_w326
  | 7, _, _ => v_w327
  | 8, _, _ => v_w328
  | 9, _, _ => v_w329
  | 10, _, _ => v_w330
  | 11, _, _ => v_w331
  | 12, _, _ => v_w332
  | 13, _, _ => v_w333
  | 14, _, _ => v_w334
  | 15, _, _ => v_w335
  | 16, _, _ => v_w336
  | 17, _, _ => v_w337
  | 18, _, _ => v_w338
  | 19, _, _ => v_w339
  | 20, _, _ => v_w340
  | 21, _, _ => v_w341
  | 22, _, _ => v_w342
  | 23, _, _ => v_w343
  | 24, _, _ => v_w344
  | 25, _, _ => v_w345
  | 26, _, _ => v_w346
  | 27, _, _ => v_w347
  | 28, _, _ => v_w348
  | 29, _, _ => v_w349
  | 30, _, h2 => absurd rfl h2
  | 31, _, _ => v_w351
  | 32, _, _ => v_w352
  | 33, _, _ => v_w353
  | 34, _, _ => v_w354
  | 35, _, _ => v_w355
  | 36, _, _ => v_w356
  | 37, _, _ => v_w357
  | 38, _, _ => v_w358
  | n + 39, h, _ => absurd h (by omega)
theorem v_code {m : Nat} (h : m < 359) (h2 : m ≠ 350) : m_word m ∈ w_all := by
  by_cases h0 : m < 40
  · obtain ⟨q, rfl⟩ : ∃ q, m = 0 + q := ⟨m - 0, by omega⟩
    exact v_code_0 q (by omega) h2
  by_cases h40 : m < 80
  · obtain ⟨q, rfl⟩ : ∃ q, m = 40 + q := ⟨m - 40, by omega⟩
    exact v_code_1 q (by omega) h2
  by_cases h80 : m < 120
  · obtain ⟨q, rfl⟩ : ∃ q, m = 80 + q := ⟨m - 80, by omega⟩
    exact v_code_2 q (by omega) h2
  by_cases h120 : m < 160
  · obtain ⟨q, rfl⟩ : ∃ q, m = 120 + q := ⟨m - 120, by omega⟩
    exact v_code_3 q (by omega) h2
  by_cases h160 : m < 200
  · obtain ⟨q, rfl⟩ : ∃ q, m = 160 + q := ⟨m - 160, by omega⟩
    exact v_code_4 q (by omega) h2
  by_cases h200 : m < 240
  · obtain ⟨q, rfl⟩ : ∃ q, m = 200 + q := ⟨m - 200, by omega⟩
    exact v_code_5 q (by omega) h2
  by_cases h240 : m < 280
  · obtain ⟨q, rfl⟩ : ∃ q, m = 240 + q := ⟨m - 240, by omega⟩
    exact v_code_6 q (by omega) h2
  by_cases h280 : m < 320
  · obtain ⟨q, rfl⟩ : ∃ q, m = 280 + q := ⟨m - 280, by omega⟩
    exact v_code_7 q (by omega) h2
  by_cases h320 : m < 360
  · obtain ⟨q, rfl⟩ : ∃ q, m = 320 + q := ⟨m - 320, by omega⟩
    exact v_code_8 q (by omega) h2
  exact absurd h (by omega)
