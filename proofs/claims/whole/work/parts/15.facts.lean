abbrev iJ0_charAt_5068e : MI := (RJ0, cJ0_charAt_5068e, 2, (some .char), false)
abbrev iJ0_checkBoundsBeginEnd_23922 : MI := (RJ0, cJ0_checkBoundsBeginEnd_23922, 3, none, false)
abbrev iJ0_checkBoundsOffCount_cabcc : MI := (RJ0, cJ0_checkBoundsOffCount_cabcc, 3, (some .int), false)
abbrev iJ0_checkIndex_df160 : MI := (RJ0, cJ0_checkIndex_df160, 2, none, false)
abbrev iJ0_coder_7d493 : MI := (RJ0, cJ0_coder_7d493, 1, (some .byte), false)
abbrev iJ0_getBytes_840e7 : MI := (RJ0, cJ0_getBytes_840e7, 4, none, false)
abbrev iJ0_isLatin1_aae02 : MI := (RJ0, cJ0_isLatin1_aae02, 1, (some .boolean), false)
abbrev iJ0_length_8abf5 : MI := (RJ0, cJ0_length_8abf5, 1, (some .int), false)
abbrev iJ1_charAt_3b067 : MI := (RJ1, cJ1_charAt_3b067, 2, (some .char), false)
abbrev iJ1_fillNull_b72d1 : MI := (RJ1, cJ1_fillNull_b72d1, 3, none, false)
abbrev iJ1_inflate_0e8fd : MI := (RJ1, cJ1_inflate_0e8fd, 5, none, false)
abbrev iJ2_charAt_3b067 : MI := (RJ2, cJ2_charAt_3b067, 2, (some .char), false)
abbrev iJ2_checkBoundsBeginEnd_d044e : MI := (RJ2, cJ2_checkBoundsBeginEnd_d044e, 3, none, false)
abbrev iJ2_checkBoundsOffCount_d044e : MI := (RJ2, cJ2_checkBoundsOffCount_d044e, 3, none, false)
abbrev iJ2_checkIndex_2214a : MI := (RJ2, cJ2_checkIndex_2214a, 2, none, false)
abbrev iJ2_fillNull_b72d1 : MI := (RJ2, cJ2_fillNull_b72d1, 3, none, false)
abbrev iJ2_getChar_3b067 : MI := (RJ2, cJ2_getChar_3b067, 2, (some .char), false)
abbrev iJ2_getChars_46870 : MI := (RJ2, cJ2_getChars_46870, 5, (some .int), false)
abbrev iJ2_getChars_ba4f3 : MI := (RJ2, cJ2_getChars_ba4f3, 7, (some .int), false)
abbrev iJ2_inflate_0e8fd : MI := (RJ2, cJ2_inflate_0e8fd, 6, none, false)
abbrev iJ2_length_9d52b : MI := (RJ2, cJ2_length_9d52b, 1, (some .int), false)
abbrev iJ2_newBytesFor_77867 : MI := (RJ2, cJ2_newBytesFor_77867, 1, (some (.array .byte)), false)
abbrev iJ2_newBytesLength_0f7a4 : MI := (RJ2, cJ2_newBytesLength_0f7a4, 1, (some .int), false)
abbrev iJ2_putChar_b72d1 : MI := (RJ2, cJ2_putChar_b72d1, 3, none, false)
abbrev iJ2_putCharsAt_cd4e5 : MI := (RJ2, cJ2_putCharsAt_cd4e5, 7, (some .int), false)
abbrev iJ3_checkFromIndexSize_8c36e : MI := (RJ3, cJ3_checkFromIndexSize_8c36e, 4, (some .int), false)
abbrev iJ3_checkFromToIndex_8c36e : MI := (RJ3, cJ3_checkFromToIndex_8c36e, 4, (some .int), false)
abbrev iJ3_checkIndex_8e157 : MI := (RJ3, cJ3_checkIndex_8e157, 3, (some .int), false)
abbrev iJ4_append_15ec4 : MI := (RJ4, cJ4_append_15ec4, 2, (some (.object "java/lang/StringBuilder")), false)
abbrev iJ4_append_bf812 : MI := (RJ4, cJ4_append_bf812, 2, (some (.object "java/lang/StringBuilder")), false)
abbrev iJ4_charAt_5068e : MI := (RJ4, cJ4_charAt_5068e, 2, (some .char), false)
abbrev iJ4_init_da8c8 : MI := (RJ4, cJ4_init_da8c8, 1, none, true)
abbrev iJ4_length_8abf5 : MI := (RJ4, cJ4_length_8abf5, 1, (some .int), false)
abbrev iJ4_setLength_d00df : MI := (RJ4, cJ4_setLength_d00df, 2, none, false)
abbrev iJ5_appendNull_278bc : MI := (RJ5, cJ5_appendNull_278bc, 3, (some (.object "java/lang/AbstractStringBuilder")), false)
abbrev iJ5_append_c97b9 : MI := (RJ5, cJ5_append_c97b9, 4, (some (.object "java/lang/AbstractStringBuilder")), false)
abbrev iJ5_append_cf1ce : MI := (RJ5, cJ5_append_cf1ce, 3, (some (.object "java/lang/AbstractStringBuilder")), false)
abbrev iJ5_charAt_5068e : MI := (RJ5, cJ5_charAt_5068e, 5, (some .char), false)
abbrev iJ5_ensureCapacityInternal_d00df : MI := (RJ5, cJ5_ensureCapacityInternal_d00df, 3, none, false)
abbrev iJ5_inflateIfNeededFor_a7421 : MI := (RJ5, cJ5_inflateIfNeededFor_a7421, 2, none, false)
abbrev iJ5_inflate_da8c8 : MI := (RJ5, cJ5_inflate_da8c8, 2, none, false)
abbrev iJ5_init_d00df : MI := (RJ5, cJ5_init_d00df, 2, none, true)
abbrev iJ5_isLatin1_aae02 : MI := (RJ5, cJ5_isLatin1_aae02, 1, (some .boolean), false)
abbrev iJ5_length_8abf5 : MI := (RJ5, cJ5_length_8abf5, 1, (some .int), false)
abbrev iJ5_newCapacity_0f7a4 : MI := (RJ5, cJ5_newCapacity_0f7a4, 6, (some .int), false)
abbrev iJ5_putStringAt_47b60 : MI := (RJ5, cJ5_putStringAt_47b60, 3, none, false)
abbrev iJ5_setLength_d00df : MI := (RJ5, cJ5_setLength_d00df, 2, none, false)
abbrev iJ6_getChars_ba4f3 : MI := (RJ6, cJ6_getChars_ba4f3, 7, (some .int), false)
abbrev iJ6_stringSize_0f7a4 : MI := (RJ6, cJ6_stringSize_0f7a4, 4, (some .int), false)
abbrev iJ7_copyOf_9075b : MI := (RJ7, cJ7_copyOf_9075b, 3, (some (.array .byte)), false)
abbrev iJ7_fill_53178 : MI := (RJ7, cJ7_fill_53178, 4, none, false)
abbrev iJ7_fill_eb02e : MI := (RJ7, cJ7_fill_eb02e, 5, none, false)
abbrev iJ7_rangeCheck_23922 : MI := (RJ7, cJ7_rangeCheck_23922, 3, none, false)
abbrev iJ8_hugeLength_7cf53 : MI := (RJ8, cJ8_hugeLength_7cf53, 3, (some .int), false)
abbrev iJ8_newLength_cabcc : MI := (RJ8, cJ8_newLength_cabcc, 4, (some .int), false)
abbrev iJ9_max_7cf53 : MI := (RJ9, cJ9_max_7cf53, 2, (some .int), false)
abbrev iJ9_min_7cf53 : MI := (RJ9, cJ9_min_7cf53, 2, (some .int), false)
abbrev iX0_add : MI := (RX0, cX0_add, 5, none, false)
abbrev iX0_clear : MI := (RX0, cX0_clear, 1, none, false)
abbrev iX0_copyFrom : MI := (RX0, cX0_copyFrom, 2, none, false)
abbrev iX0_init : MI := (RX0, cX0_init, 1, none, true)
abbrev iX10_awaitAt : MI := (RX10, cX10_awaitAt, 8, (some .int), false)
abbrev iX10_begin : MI := (RX10, cX10_begin, 7, none, false)
abbrev iX10_beginEpoch : MI := (RX10, cX10_beginEpoch, 4, none, false)
abbrev iX10_beginWait : MI := (RX10, cX10_beginWait, 5, none, false)
abbrev iX10_biasIsValid : MI := (RX10, cX10_biasIsValid, 2, (some .boolean), false)
abbrev iX10_block : MI := (RX10, cX10_block, 4, none, false)
abbrev iX10_canInflate : MI := (RX10, cX10_canInflate, 1, (some .boolean), false)
abbrev iX10_copyFrom : MI := (RX10, cX10_copyFrom, 3, none, false)
abbrev iX10_deflate : MI := (RX10, cX10_deflate, 2, none, false)
abbrev iX10_deflateOverdue : MI := (RX10, cX10_deflateOverdue, 6, none, false)
abbrev iX10_endBiasing : MI := (RX10, cX10_endBiasing, 4, none, false)
abbrev iX10_endOverdueWaits : MI := (RX10, cX10_endOverdueWaits, 5, none, false)
abbrev iX10_endThread : MI := (RX10, cX10_endThread, 8, (some .int), false)
abbrev iX10_endWait : MI := (RX10, cX10_endWait, 5, none, false)
abbrev iX10_enterObject : MI := (RX10, cX10_enterObject, 7, (some .int), false)
abbrev iX10_entryNeedsMonitor : MI := (RX10, cX10_entryNeedsMonitor, 3, (some .boolean), false)
abbrev iX10_exitObject : MI := (RX10, cX10_exitObject, 5, (some .int), false)
abbrev iX10_giveToFirst : MI := (RX10, cX10_giveToFirst, 4, none, false)
abbrev iX10_hasThread : MI := (RX10, cX10_hasThread, 2, (some .boolean), false)
abbrev iX10_hashOf : MI := (RX10, cX10_hashOf, 3, (some .int), false)
abbrev iX10_inflate : MI := (RX10, cX10_inflate, 3, none, false)
abbrev iX10_init : MI := (RX10, cX10_init, 2, none, true)
abbrev iX10_interruptThread : MI := (RX10, cX10_interruptThread, 4, (some .int), false)
abbrev iX10_letPass : MI := (RX10, cX10_letPass, 4, (some .int), false)
abbrev iX10_longestIdle : MI := (RX10, cX10_longestIdle, 6, (some (.object "LockSimulator$Lock")), false)
abbrev iX10_monitorIsFree : MI := (RX10, cX10_monitorIsFree, 1, (some .boolean), false)
abbrev iX10_monitorsInUse : MI := (RX10, cX10_monitorsInUse, 6, (some .int), false)
abbrev iX10_notifyEach : MI := (RX10, cX10_notifyEach, 8, (some .int), false)
abbrev iX10_notifyFirst : MI := (RX10, cX10_notifyFirst, 6, (some .int), false)
abbrev iX10_ownerError : MI := (RX10, cX10_ownerError, 4, (some .int), false)
abbrev iX10_perform : MI := (RX10, cX10_perform, 5, (some .int), false)
abbrev iX10_recover : MI := (RX10, cX10_recover, 2, (some .int), false)
abbrev iX10_release : MI := (RX10, cX10_release, 2, none, false)
abbrev iX10_revokeBias : MI := (RX10, cX10_revokeBias, 3, none, false)
abbrev iX10_runnerError : MI := (RX10, cX10_runnerError, 3, (some .int), false)
abbrev iX10_startThread : MI := (RX10, cX10_startThread, 4, (some .int), false)
abbrev iX10_take : MI := (RX10, cX10_take, 3, (some .int), false)
abbrev iX10_takeBiased : MI := (RX10, cX10_takeBiased, 3, none, false)
abbrev iX10_waitedFor : MI := (RX10, cX10_waitedFor, 4, (some .int), false)
abbrev iX10_waitsForItself : MI := (RX10, cX10_waitsForItself, 4, (some .boolean), false)
abbrev iX10_wakeQueues : MI := (RX10, cX10_wakeQueues, 6, (some .int), false)
abbrev iX11_await : MI := (RX11, cX11_await, 4, (some .int), false)
abbrev iX11_bestValue : MI := (RX11, cX11_bestValue, 6, (some .int), false)
abbrev iX11_bias : MI := (RX11, cX11_bias, 3, (some .int), false)
abbrev iX11_cost : MI := (RX11, cX11_cost, 1, (some .int), false)
abbrev iX11_costWith : MI := (RX11, cX11_costWith, 4, (some .int), false)
abbrev iX11_count : MI := (RX11, cX11_count, 2, (some .int), false)
abbrev iX11_counted : MI := (RX11, cX11_counted, 2, (some .int), false)
abbrev iX11_deadlocked : MI := (RX11, cX11_deadlocked, 3, (some .int), false)
abbrev iX11_describe : MI := (RX11, cX11_describe, 4, (some .int), false)
abbrev iX11_die : MI := (RX11, cX11_die, 2, (some .int), false)
abbrev iX11_enter : MI := (RX11, cX11_enter, 3, (some .int), false)
abbrev iX11_exit : MI := (RX11, cX11_exit, 3, (some .int), false)
abbrev iX11_fault : MI := (RX11, cX11_fault, 1, (some .int), false)
abbrev iX11_hash : MI := (RX11, cX11_hash, 2, (some .int), false)
abbrev iX11_held : MI := (RX11, cX11_held, 4, (some .int), false)
abbrev iX11_init : MI := (RX11, cX11_init, 2, none, true)
abbrev iX11_interrupt : MI := (RX11, cX11_interrupt, 2, (some .int), false)
abbrev iX11_isError : MI := (RX11, cX11_isError, 1, (some .boolean), false)
abbrev iX11_isObject : MI := (RX11, cX11_isObject, 1, (some .boolean), false)
abbrev iX11_lockState : MI := (RX11, cX11_lockState, 3, (some .int), false)
abbrev iX11_monitors : MI := (RX11, cX11_monitors, 1, (some .int), false)
abbrev iX11_operate : MI := (RX11, cX11_operate, 6, (some .int), false)
abbrev iX11_owner : MI := (RX11, cX11_owner, 2, (some .int), false)
abbrev iX11_queued : MI := (RX11, cX11_queued, 3, (some .int), false)
abbrev iX11_recorded : MI := (RX11, cX11_recorded, 1, (some .int), false)
abbrev iX11_replayCost : MI := (RX11, cX11_replayCost, 3, (some .int), false)
abbrev iX11_reset : MI := (RX11, cX11_reset, 3, (some .int), false)
abbrev iX11_restore : MI := (RX11, cX11_restore, 3, (some .int), false)
abbrev iX11_run : MI := (RX11, cX11_run, 6, (some .int), false)
abbrev iX11_save : MI := (RX11, cX11_save, 3, (some .int), false)
abbrev iX11_set : MI := (RX11, cX11_set, 4, (some .int), false)
abbrev iX11_setting : MI := (RX11, cX11_setting, 2, (some .int), false)
abbrev iX11_signal : MI := (RX11, cX11_signal, 3, (some .int), false)
abbrev iX11_signalAll : MI := (RX11, cX11_signalAll, 3, (some .int), false)
abbrev iX11_start : MI := (RX11, cX11_start, 2, (some .int), false)
abbrev iX11_threadAt : MI := (RX11, cX11_threadAt, 2, (some .int), false)
abbrev iX11_threadState : MI := (RX11, cX11_threadState, 3, (some .int), false)
abbrev iX11_threads : MI := (RX11, cX11_threads, 1, (some .int), false)
abbrev iX11_tick : MI := (RX11, cX11_tick, 2, (some .int), false)
abbrev iX11_time : MI := (RX11, cX11_time, 1, (some .int), false)
abbrev iX11_type : MI := (RX11, cX11_type, 4, (some .int), false)
abbrev iX11_waitEnd : MI := (RX11, cX11_waitEnd, 2, (some .int), false)
abbrev iX11_waiting : MI := (RX11, cX11_waiting, 3, (some .int), false)
abbrev iX11_wipe : MI := (RX11, cX11_wipe, 2, (some .int), false)
abbrev iX11_write : MI := (RX11, cX11_write, 2, (some .int), false)
abbrev iX12_acquire : MI := (RX12, cX12_acquire, 3, none, false)
abbrev iX12_argument : MI := (RX12, cX12_argument, 3, (some .int), false)
abbrev iX12_await : MI := (RX12, cX12_await, 6, (some .int), false)
abbrev iX12_begin : MI := (RX12, cX12_begin, 3, none, false)
abbrev iX12_bestValue : MI := (RX12, cX12_bestValue, 6, (some .int), false)
abbrev iX12_bias : MI := (RX12, cX12_bias, 2, (some .int), false)
abbrev iX12_biased : MI := (RX12, cX12_biased, 4, (some .int), false)
abbrev iX12_blank : MI := (RX12, cX12_blank, 1, none, false)
abbrev iX12_cost : MI := (RX12, cX12_cost, 1, (some .int), false)
abbrev iX12_count : MI := (RX12, cX12_count, 2, (some .int), false)
abbrev iX12_counted : MI := (RX12, cX12_counted, 2, (some .int), false)
abbrev iX12_deadlocked : MI := (RX12, cX12_deadlocked, 5, (some .int), false)
abbrev iX12_deflate : MI := (RX12, cX12_deflate, 2, none, false)
abbrev iX12_describe : MI := (RX12, cX12_describe, 3, (some .int), false)
abbrev iX12_die : MI := (RX12, cX12_die, 5, (some .int), false)
abbrev iX12_endWait : MI := (RX12, cX12_endWait, 5, none, false)
abbrev iX12_enter : MI := (RX12, cX12_enter, 6, (some .int), false)
abbrev iX12_entered : MI := (RX12, cX12_entered, 3, (some .int), false)
abbrev iX12_entering : MI := (RX12, cX12_entering, 3, (some .int), false)
abbrev iX12_exit : MI := (RX12, cX12_exit, 5, (some .int), false)
abbrev iX12_fault : MI := (RX12, cX12_fault, 1, (some .int), false)
abbrev iX12_forbidden : MI := (RX12, cX12_forbidden, 3, (some .int), false)
abbrev iX12_hash : MI := (RX12, cX12_hash, 3, (some .int), false)
abbrev iX12_held : MI := (RX12, cX12_held, 4, (some .int), false)
abbrev iX12_hold : MI := (RX12, cX12_hold, 4, none, false)
abbrev iX12_inflates : MI := (RX12, cX12_inflates, 4, (some .boolean), false)
abbrev iX12_init : MI := (RX12, cX12_init, 1, none, true)
abbrev iX12_interrupt : MI := (RX12, cX12_interrupt, 2, (some .int), false)
abbrev iX12_isDigit : MI := (RX12, cX12_isDigit, 2, (some .boolean), false)
abbrev iX12_isHeld : MI := (RX12, cX12_isHeld, 2, (some .boolean), false)
abbrev iX12_isIdle : MI := (RX12, cX12_isIdle, 2, (some .boolean), false)
abbrev iX12_isIn : MI := (RX12, cX12_isIn, 3, (some .boolean), false)
abbrev iX12_isObject : MI := (RX12, cX12_isObject, 1, (some .boolean), false)
abbrev iX12_isThread : MI := (RX12, cX12_isThread, 2, (some .boolean), false)
abbrev iX12_isValid : MI := (RX12, cX12_isValid, 2, (some .boolean), false)
abbrev iX12_isValue : MI := (RX12, cX12_isValue, 2, (some .boolean), false)
abbrev iX12_least : MI := (RX12, cX12_least, 1, (some .int), false)
abbrev iX12_list : MI := (RX12, cX12_list, 6, none, false)
abbrev iX12_lockState : MI := (RX12, cX12_lockState, 2, (some .int), false)
abbrev iX12_lockWord : MI := (RX12, cX12_lockWord, 1, (some .long), false)
abbrev iX12_makeText : MI := (RX12, cX12_makeText, 2, none, false)
abbrev iX12_monitors : MI := (RX12, cX12_monitors, 3, (some .int), false)
abbrev iX12_most : MI := (RX12, cX12_most, 1, (some .int), false)
abbrev iX12_number : MI := (RX12, cX12_number, 4, none, false)
abbrev iX12_operate : MI := (RX12, cX12_operate, 5, (some .int), false)
abbrev iX12_operationWord : MI := (RX12, cX12_operationWord, 1, (some .long), false)
abbrev iX12_owner : MI := (RX12, cX12_owner, 2, (some .int), false)
abbrev iX12_passes : MI := (RX12, cX12_passes, 4, (some .boolean), false)
abbrev iX12_queueFirst : MI := (RX12, cX12_queueFirst, 4, none, false)
abbrev iX12_queueUp : MI := (RX12, cX12_queueUp, 3, none, false)
abbrev iX12_queued : MI := (RX12, cX12_queued, 3, (some .int), false)
abbrev iX12_readsItem : MI := (RX12, cX12_readsItem, 5, (some .boolean), false)
abbrev iX12_record : MI := (RX12, cX12_record, 6, none, false)
abbrev iX12_recorded : MI := (RX12, cX12_recorded, 1, (some .int), false)
abbrev iX12_release : MI := (RX12, cX12_release, 2, none, false)
abbrev iX12_replayCost : MI := (RX12, cX12_replayCost, 3, (some .int), false)
abbrev iX12_replayed : MI := (RX12, cX12_replayed, 6, (some .int), false)
abbrev iX12_reset : MI := (RX12, cX12_reset, 3, (some .int), false)
abbrev iX12_restore : MI := (RX12, cX12_restore, 3, (some .int), false)
abbrev iX12_revoke : MI := (RX12, cX12_revoke, 4, none, false)
abbrev iX12_run : MI := (RX12, cX12_run, 4, (some .int), false)
abbrev iX12_save : MI := (RX12, cX12_save, 3, (some .int), false)
abbrev iX12_set : MI := (RX12, cX12_set, 4, (some .int), false)
abbrev iX12_setting : MI := (RX12, cX12_setting, 2, (some .int), false)
abbrev iX12_sign : MI := (RX12, cX12_sign, 2, none, false)
abbrev iX12_signal : MI := (RX12, cX12_signal, 5, (some .int), false)
abbrev iX12_signalAll : MI := (RX12, cX12_signalAll, 5, (some .int), false)
abbrev iX12_sortOf : MI := (RX12, cX12_sortOf, 2, (some .int), false)
abbrev iX12_start : MI := (RX12, cX12_start, 4, (some .int), false)
abbrev iX12_takeOut : MI := (RX12, cX12_takeOut, 7, none, false)
abbrev iX12_threadAt : MI := (RX12, cX12_threadAt, 2, (some .int), false)
abbrev iX12_threadState : MI := (RX12, cX12_threadState, 2, (some .int), false)
abbrev iX12_threads : MI := (RX12, cX12_threads, 1, (some .int), false)
abbrev iX12_tick : MI := (RX12, cX12_tick, 4, (some .int), false)
abbrev iX12_tickOnce : MI := (RX12, cX12_tickOnce, 2, none, false)
abbrev iX12_time : MI := (RX12, cX12_time, 1, (some .int), false)
abbrev iX12_type : MI := (RX12, cX12_type, 3, (some .int), false)
abbrev iX12_unbias : MI := (RX12, cX12_unbias, 2, none, false)
abbrev iX12_waitEnd : MI := (RX12, cX12_waitEnd, 2, (some .int), false)
abbrev iX12_waiting : MI := (RX12, cX12_waiting, 3, (some .int), false)
abbrev iX12_waitsFor : MI := (RX12, cX12_waitsFor, 2, (some .int), false)
abbrev iX12_wipe : MI := (RX12, cX12_wipe, 2, (some .int), false)
abbrev iX12_word : MI := (RX12, cX12_word, 5, none, false)
abbrev iX12_write : MI := (RX12, cX12_write, 2, (some .int), false)
abbrev iX1_clear : MI := (RX1, cX1_clear, 1, none, false)
abbrev iX1_copyFrom : MI := (RX1, cX1_copyFrom, 2, none, false)
abbrev iX1_init : MI := (RX1, cX1_init, 1, none, true)
abbrev iX2_append : MI := (RX2, cX2_append, 2, none, false)
abbrev iX2_at : MI := (RX2, cX2_at, 2, (some .int), false)
abbrev iX2_clear : MI := (RX2, cX2_clear, 1, none, false)
abbrev iX2_copyFrom : MI := (RX2, cX2_copyFrom, 2, none, false)
abbrev iX2_drop : MI := (RX2, cX2_drop, 4, none, false)
abbrev iX2_init : MI := (RX2, cX2_init, 1, none, true)
abbrev iX2_isEmpty : MI := (RX2, cX2_isEmpty, 1, (some .boolean), false)
abbrev iX2_putFirst : MI := (RX2, cX2_putFirst, 3, none, false)
abbrev iX2_putMembers : MI := (RX2, cX2_putMembers, 3, none, false)
abbrev iX3_clear : MI := (RX3, cX3_clear, 2, none, false)
abbrev iX3_copyFrom : MI := (RX3, cX3_copyFrom, 2, none, false)
abbrev iX3_give : MI := (RX3, cX3_give, 3, none, false)
abbrev iX3_init : MI := (RX3, cX3_init, 2, none, true)
abbrev iX3_isHeld : MI := (RX3, cX3_isHeld, 1, (some .boolean), false)
abbrev iX3_isHeldBy : MI := (RX3, cX3_isHeldBy, 2, (some .boolean), false)
abbrev iX3_isIdle : MI := (RX3, cX3_isIdle, 1, (some .boolean), false)
abbrev iX3_letGo : MI := (RX3, cX3_letGo, 1, none, false)
abbrev iX3_loseBias : MI := (RX3, cX3_loseBias, 1, none, false)
abbrev iX3_putDescription : MI := (RX3, cX3_putDescription, 3, none, false)
abbrev iX3_stateWord : MI := (RX3, cX3_stateWord, 1, (some (.object "java/lang/String")), false)
abbrev iX4_form : MI := (RX4, cX4_form, 1, (some (.object "java/lang/String")), false)
abbrev iX5_append : MI := (RX5, cX5_append, 2, (some .boolean), false)
abbrev iX5_argument : MI := (RX5, cX5_argument, 2, (some .int), false)
abbrev iX5_endOfItem : MI := (RX5, cX5_endOfItem, 3, (some .int), false)
abbrev iX5_faultyItem : MI := (RX5, cX5_faultyItem, 4, (some .int), false)
abbrev iX5_hasForm : MI := (RX5, cX5_hasForm, 7, (some .boolean), false)
abbrev iX5_init : MI := (RX5, cX5_init, 1, none, true)
abbrev iX5_isDigit : MI := (RX5, cX5_isDigit, 2, (some .boolean), false)
abbrev iX5_matchNumber : MI := (RX5, cX5_matchNumber, 6, (some .int), false)
abbrev iX5_matchSign : MI := (RX5, cX5_matchSign, 4, (some .int), false)
abbrev iX5_readItem : MI := (RX5, cX5_readItem, 4, (some .int), false)
abbrev iX6_allows : MI := (RX6, cX6_allows, 2, (some .boolean), false)
abbrev iX6_change : MI := (RX6, cX6_change, 3, none, false)
abbrev iX6_copyFrom : MI := (RX6, cX6_copyFrom, 2, none, false)
abbrev iX6_exists : MI := (RX6, cX6_exists, 1, (some .boolean), false)
abbrev iX6_greatest : MI := (RX6, cX6_greatest, 1, (some .int), false)
abbrev iX6_init : MI := (RX6, cX6_init, 1, none, true)
abbrev iX6_least : MI := (RX6, cX6_least, 1, (some .int), false)
abbrev iX6_valueOf : MI := (RX6, cX6_valueOf, 2, (some .int), false)
abbrev iX7_init : MI := (RX7, cX7_init, 1, none, true)
abbrev iX8_clear : MI := (RX8, cX8_clear, 1, none, false)
abbrev iX8_copyFrom : MI := (RX8, cX8_copyFrom, 2, none, false)
abbrev iX8_init : MI := (RX8, cX8_init, 1, none, true)
abbrev iX8_leavePlace : MI := (RX8, cX8_leavePlace, 2, none, false)
abbrev iX9_price : MI := (RX9, cX9_price, 3, (some .int), false)
theorem inG0 : ∀ w ∈ u_ws RJ4 TJ4 4, w ∈ lw_g := by decide +kernel
theorem inG1 : ∀ w ∈ u_ws RX0 TX0 5, w ∈ lw_g := by decide +kernel
theorem inG2 : ∀ w ∈ u_ws RX1 TX1 3, w ∈ lw_g := by decide +kernel
theorem inG3 : ∀ w ∈ u_ws RX2 TX2 2, w ∈ lw_g := by decide +kernel
theorem inG4 : ∀ w ∈ u_ws RX3 TX3 12, w ∈ lw_g := by decide +kernel
theorem inG5 : ∀ w ∈ u_ws RX5 TX5 4, w ∈ lw_g := by decide +kernel
theorem inG6 : ∀ w ∈ u_ws RX6 TX6 1, w ∈ lw_g := by decide +kernel
theorem inG7 : ∀ w ∈ u_ws RX7 TX7 3, w ∈ lw_g := by decide +kernel
theorem inG8 : ∀ w ∈ u_ws RX8 TX8 6, w ∈ lw_g := by decide +kernel
theorem inG9 : ∀ w ∈ u_ws RX10 TX10 8, w ∈ lw_g := by decide +kernel
theorem inG10 : ∀ w ∈ u_ws RX11 TX11 6, w ∈ lw_g := by decide +kernel
theorem inG11 : ∀ w ∈ u_ws RX12 TX12 12, w ∈ lw_g := by decide +kernel
theorem mw_oi1 : Cond.instanceMethod objectInit ∈ lw_g := lw_in (List.mem_of_getElem? (i := 107) (by decide +kernel)) rfl
theorem mw_oi2 : Cond.code objectInit ⟨#[0xb1]⟩ 1 none ∈ lw_g := lw_in (List.mem_of_getElem? (i := 108) (by decide +kernel)) rfl
theorem kX0_1 : Cond.methodLink RX0 1 objectInit ∈ lw_g := lw_in (List.mem_of_getElem? (i := 335) (by decide +kernel)) rfl
theorem mw_336 : Cond.fieldLink RX0 9 "LockSimulator$Journal" "operations" "[I" ∈ lw_g := lw_in (List.mem_of_getElem? (i := 336) (by decide +kernel)) rfl
theorem pX0_9 : PutOK RX0 9 1 0 (.array .int) true := ⟨RX0, TX0, 5, tyX0, rfl, by decide, inG1, mw_336, tyX0_ok, nmX0, rfl, by decide +kernel, fun _ => rfl⟩
theorem mw_338 : Cond.fieldLink RX0 13 "LockSimulator$Journal" "firsts" "[I" ∈ lw_g := lw_in (List.mem_of_getElem? (i := 338) (by decide +kernel)) rfl
theorem pX0_13 : PutOK RX0 13 1 1 (.array .int) true := ⟨RX0, TX0, 5, tyX0, rfl, by decide, inG1, mw_338, tyX0_ok, nmX0, rfl, by decide +kernel, fun _ => rfl⟩
theorem mw_340 : Cond.fieldLink RX0 16 "LockSimulator$Journal" "seconds" "[I" ∈ lw_g := lw_in (List.mem_of_getElem? (i := 340) (by decide +kernel)) rfl
theorem pX0_16 : PutOK RX0 16 1 2 (.array .int) true := ⟨RX0, TX0, 5, tyX0, rfl, by decide, inG1, mw_340, tyX0_ok, nmX0, rfl, by decide +kernel, fun _ => rfl⟩
theorem mw_342 : Cond.fieldLink RX0 19 "LockSimulator$Journal" "thirds" "[I" ∈ lw_g := lw_in (List.mem_of_getElem? (i := 342) (by decide +kernel)) rfl
theorem pX0_19 : PutOK RX0 19 1 3 (.array .int) true := ⟨RX0, TX0, 5, tyX0, rfl, by decide, inG1, mw_342, tyX0_ok, nmX0, rfl, by decide +kernel, fun _ => rfl⟩
theorem mw_344 : Cond.fieldLink RX0 22 "LockSimulator$Journal" "size" "I" ∈ lw_g := lw_in (List.mem_of_getElem? (i := 344) (by decide +kernel)) rfl
theorem fX0_22 : FldOK RX0 22 1 4 := ⟨RX0, TX0, 5, rfl, by decide, inG1, mw_344⟩
theorem fX0_9 : FldOK RX0 9 1 0 := ⟨RX0, TX0, 5, rfl, by decide, inG1, mw_336⟩
theorem fX0_13 : FldOK RX0 13 1 1 := ⟨RX0, TX0, 5, rfl, by decide, inG1, mw_338⟩
theorem fX0_16 : FldOK RX0 16 1 2 := ⟨RX0, TX0, 5, rfl, by decide, inG1, mw_340⟩
theorem fX0_19 : FldOK RX0 19 1 3 := ⟨RX0, TX0, 5, rfl, by decide, inG1, mw_342⟩
theorem pX0_22 : PutOK RX0 22 1 4 .int false := ⟨RX0, TX0, 5, tyX0, rfl, by decide, inG1, mw_344, tyX0_ok, nmX0, rfl, by decide +kernel, fun h => by cases h⟩
theorem kX0_26 : Cond.methodLink RX0 26 arraycopyName ∈ lw_g := lw_in (List.mem_of_getElem? (i := 1181) (by decide +kernel)) rfl
theorem kX1_1 : Cond.methodLink RX1 1 objectInit ∈ lw_g := lw_in (List.mem_of_getElem? (i := 250) (by decide +kernel)) rfl
theorem mw_251 : Cond.fieldLink RX1 7 "LockSimulator$Kind" "epoch" "I" ∈ lw_g := lw_in (List.mem_of_getElem? (i := 251) (by decide +kernel)) rfl
theorem pX1_7 : PutOK RX1 7 2 0 .int false := ⟨RX1, TX1, 3, tyX1, rfl, by decide, inG2, mw_251, tyX1_ok, nmX1, rfl, by decide +kernel, fun h => by cases h⟩
theorem mw_254 : Cond.fieldLink RX1 13 "LockSimulator$Kind" "revocations" "I" ∈ lw_g := lw_in (List.mem_of_getElem? (i := 254) (by decide +kernel)) rfl
theorem pX1_13 : PutOK RX1 13 2 1 .int false := ⟨RX1, TX1, 3, tyX1, rfl, by decide, inG2, mw_254, tyX1_ok, nmX1, rfl, by decide +kernel, fun h => by cases h⟩
theorem mw_257 : Cond.fieldLink RX1 16 "LockSimulator$Kind" "biasable" "Z" ∈ lw_g := lw_in (List.mem_of_getElem? (i := 257) (by decide +kernel)) rfl
theorem pX1_16 : PutOK RX1 16 2 2 .boolean false := ⟨RX1, TX1, 3, tyX1, rfl, by decide, inG2, mw_257, tyX1_ok, nmX1, rfl, by decide +kernel, fun h => by cases h⟩
theorem fX1_7 : FldOK RX1 7 2 0 := ⟨RX1, TX1, 3, rfl, by decide, inG2, mw_251⟩
theorem fX1_13 : FldOK RX1 13 2 1 := ⟨RX1, TX1, 3, rfl, by decide, inG2, mw_254⟩
theorem fX1_16 : FldOK RX1 16 2 2 := ⟨RX1, TX1, 3, rfl, by decide, inG2, mw_257⟩
theorem kX2_3 : Cond.methodLink RX2 3 objectInit ∈ lw_g := lw_in (List.mem_of_getElem? (i := 181) (by decide +kernel)) rfl
theorem mw_182 : Cond.fieldLink RX2 9 "LockSimulator$Line" "members" "[I" ∈ lw_g := lw_in (List.mem_of_getElem? (i := 182) (by decide +kernel)) rfl
theorem pX2_9 : PutOK RX2 9 3 0 (.array .int) true := ⟨RX2, TX2, 2, tyX2, rfl, by decide, inG3, mw_182, tyX2_ok, nmX2, rfl, by decide +kernel, fun _ => rfl⟩
theorem mw_183 : Cond.fieldLink RX2 15 "LockSimulator$Line" "size" "I" ∈ lw_g := lw_in (List.mem_of_getElem? (i := 183) (by decide +kernel)) rfl
theorem fX2_15 : FldOK RX2 15 3 1 := ⟨RX2, TX2, 2, rfl, by decide, inG3, mw_183⟩
theorem fX2_9 : FldOK RX2 9 3 0 := ⟨RX2, TX2, 2, rfl, by decide, inG3, mw_182⟩
theorem pX2_15 : PutOK RX2 15 3 1 .int false := ⟨RX2, TX2, 2, tyX2, rfl, by decide, inG3, mw_183, tyX2_ok, nmX2, rfl, by decide +kernel, fun h => by cases h⟩
theorem mw_982 : Cond.methodLink RX2 19 yJ4_append_bf812 ∈ lw_g := lw_in (List.mem_of_getElem? (i := 982) (by decide +kernel)) rfl
theorem mw_88 : Cond.initialized RJ4 ∈ lw_g := lw_in (List.mem_of_getElem? (i := 88) (by decide +kernel)) rfl
theorem mw_950 : Cond.code yJ4_append_bf812 cJ4_append_bf812 2 (some (.object "java/lang/StringBuilder")) ∈ lw_g := lw_in (List.mem_of_getElem? (i := 950) (by decide +kernel)) rfl
theorem mw_948 : Cond.instanceMethod yJ4_append_bf812 ∈ lw_g := lw_in (List.mem_of_getElem? (i := 948) (by decide +kernel)) rfl
theorem mw_949 : Cond.selects RJ4 yJ4_append_bf812 yJ4_append_bf812 ∈ lw_g := lw_in (List.mem_of_getElem? (i := 949) (by decide +kernel)) rfl
theorem kX2_19 : CallV RX2 19 yJ4_append_bf812 iJ4_append_bf812 1 := ⟨mw_982, mw_948, mw_949, mw_88, mw_950, by decide +kernel, by decide⟩
theorem kX2_25 : Cond.methodLink RX2 25 arraycopyName ∈ lw_g := lw_in (List.mem_of_getElem? (i := 1172) (by decide +kernel)) rfl
theorem kX3_3 : Cond.methodLink RX3 3 objectInit ∈ lw_g := lw_in (List.mem_of_getElem? (i := 175) (by decide +kernel)) rfl
theorem mw_176 : Cond.classLink RX3 9 RX2 ∈ lw_g := lw_in (List.mem_of_getElem? (i := 176) (by decide +kernel)) rfl
theorem mw_177 : Cond.instantiable RX2 2 ∈ lw_g := lw_in (List.mem_of_getElem? (i := 177) (by decide +kernel)) rfl
theorem mw_82 : Cond.initialized RX2 ∈ lw_g := lw_in (List.mem_of_getElem? (i := 82) (by decide +kernel)) rfl
theorem nX3_9 : NewOK RX3 9 3 2 [.null, .int 0] := ⟨RX2, TX2, tyX2, rfl, inG3, tyX2_ok, by decide +kernel, mw_176, mw_177, mw_82⟩
theorem mw_178 : Cond.methodLink RX3 11 yX2_init ∈ lw_g := lw_in (List.mem_of_getElem? (i := 178) (by decide +kernel)) rfl
theorem mw_180 : Cond.code yX2_init cX2_init 1 none ∈ lw_g := lw_in (List.mem_of_getElem? (i := 180) (by decide +kernel)) rfl
theorem mw_179 : Cond.instanceMethod yX2_init ∈ lw_g := lw_in (List.mem_of_getElem? (i := 179) (by decide +kernel)) rfl
theorem kX3_11 : CallI RX3 11 yX2_init iX2_init 0 := ⟨mw_178, mw_179, rfl, mw_82, mw_180, by decide +kernel, by decide, rfl⟩
theorem mw_215 : Cond.fieldLink RX3 12 "LockSimulator$Lock" "queue" "LLockSimulator$Line;" ∈ lw_g := lw_in (List.mem_of_getElem? (i := 215) (by decide +kernel)) rfl
theorem pX3_12 : PutOK RX3 12 4 10 (.object "LockSimulator$Line") true := ⟨RX3, TX3, 12, tyX3, rfl, by decide, inG4, mw_215, tyX3_ok, nmX3, rfl, by decide +kernel, fun _ => rfl⟩
theorem mw_218 : Cond.fieldLink RX3 18 "LockSimulator$Lock" "waitSet" "LLockSimulator$Line;" ∈ lw_g := lw_in (List.mem_of_getElem? (i := 218) (by decide +kernel)) rfl
theorem pX3_18 : PutOK RX3 18 4 11 (.object "LockSimulator$Line") true := ⟨RX3, TX3, 12, tyX3, rfl, by decide, inG4, mw_218, tyX3_ok, nmX3, rfl, by decide +kernel, fun _ => rfl⟩
theorem mw_190 : Cond.fieldLink RX3 21 "LockSimulator$Lock" "number" "I" ∈ lw_g := lw_in (List.mem_of_getElem? (i := 190) (by decide +kernel)) rfl
theorem pX3_21 : PutOK RX3 21 4 0 .int true := ⟨RX3, TX3, 12, tyX3, rfl, by decide, inG4, mw_190, tyX3_ok, nmX3, rfl, by decide +kernel, fun _ => rfl⟩
theorem mw_192 : Cond.fieldLink RX3 25 "LockSimulator$Lock" "kind" "I" ∈ lw_g := lw_in (List.mem_of_getElem? (i := 192) (by decide +kernel)) rfl
theorem pX3_25 : PutOK RX3 25 4 1 .int true := ⟨RX3, TX3, 12, tyX3, rfl, by decide, inG4, mw_192, tyX3_ok, nmX3, rfl, by decide +kernel, fun _ => rfl⟩
theorem mw_194 : Cond.fieldLink RX3 28 "LockSimulator$Lock" "state" "I" ∈ lw_g := lw_in (List.mem_of_getElem? (i := 194) (by decide +kernel)) rfl
theorem pX3_28 : PutOK RX3 28 4 2 .int false := ⟨RX3, TX3, 12, tyX3, rfl, by decide, inG4, mw_194, tyX3_ok, nmX3, rfl, by decide +kernel, fun h => by cases h⟩
theorem mw_286 : Cond.methodLink RX3 31 yX3_letGo ∈ lw_g := lw_in (List.mem_of_getElem? (i := 286) (by decide +kernel)) rfl
theorem mw_81 : Cond.initialized RX3 ∈ lw_g := lw_in (List.mem_of_getElem? (i := 81) (by decide +kernel)) rfl
theorem mw_289 : Cond.code yX3_letGo cX3_letGo 1 none ∈ lw_g := lw_in (List.mem_of_getElem? (i := 289) (by decide +kernel)) rfl
theorem mw_287 : Cond.instanceMethod yX3_letGo ∈ lw_g := lw_in (List.mem_of_getElem? (i := 287) (by decide +kernel)) rfl
theorem mw_288 : Cond.selects RX3 yX3_letGo yX3_letGo ∈ lw_g := lw_in (List.mem_of_getElem? (i := 288) (by decide +kernel)) rfl
theorem kX3_31 : CallV RX3 31 yX3_letGo iX3_letGo 0 := ⟨mw_286, mw_287, mw_288, mw_81, mw_289, by decide +kernel, by decide⟩
theorem mw_203 : Cond.fieldLink RX3 34 "LockSimulator$Lock" "biasThread" "I" ∈ lw_g := lw_in (List.mem_of_getElem? (i := 203) (by decide +kernel)) rfl
theorem pX3_34 : PutOK RX3 34 4 5 .int false := ⟨RX3, TX3, 12, tyX3, rfl, by decide, inG4, mw_203, tyX3_ok, nmX3, rfl, by decide +kernel, fun h => by cases h⟩
theorem mw_206 : Cond.fieldLink RX3 37 "LockSimulator$Lock" "epoch" "I" ∈ lw_g := lw_in (List.mem_of_getElem? (i := 206) (by decide +kernel)) rfl
theorem pX3_37 : PutOK RX3 37 4 6 .int false := ⟨RX3, TX3, 12, tyX3, rfl, by decide, inG4, mw_206, tyX3_ok, nmX3, rfl, by decide +kernel, fun h => by cases h⟩
theorem mw_208 : Cond.fieldLink RX3 40 "LockSimulator$Lock" "abandoned" "Z" ∈ lw_g := lw_in (List.mem_of_getElem? (i := 208) (by decide +kernel)) rfl
theorem pX3_40 : PutOK RX3 40 4 7 .boolean false := ⟨RX3, TX3, 12, tyX3, rfl, by decide, inG4, mw_208, tyX3_ok, nmX3, rfl, by decide +kernel, fun h => by cases h⟩
theorem mw_211 : Cond.fieldLink RX3 44 "LockSimulator$Lock" "hashValue" "I" ∈ lw_g := lw_in (List.mem_of_getElem? (i := 211) (by decide +kernel)) rfl
theorem pX3_44 : PutOK RX3 44 4 8 .int false := ⟨RX3, TX3, 12, tyX3, rfl, by decide, inG4, mw_211, tyX3_ok, nmX3, rfl, by decide +kernel, fun h => by cases h⟩
theorem mw_213 : Cond.fieldLink RX3 47 "LockSimulator$Lock" "idleSince" "I" ∈ lw_g := lw_in (List.mem_of_getElem? (i := 213) (by decide +kernel)) rfl
theorem pX3_47 : PutOK RX3 47 4 9 .int false := ⟨RX3, TX3, 12, tyX3, rfl, by decide, inG4, mw_213, tyX3_ok, nmX3, rfl, by decide +kernel, fun h => by cases h⟩
theorem fX3_12 : FldOK RX3 12 4 10 := ⟨RX3, TX3, 12, rfl, by decide, inG4, mw_215⟩
theorem mw_290 : Cond.methodLink RX3 50 yX2_clear ∈ lw_g := lw_in (List.mem_of_getElem? (i := 290) (by decide +kernel)) rfl
theorem mw_293 : Cond.code yX2_clear cX2_clear 1 none ∈ lw_g := lw_in (List.mem_of_getElem? (i := 293) (by decide +kernel)) rfl
theorem mw_291 : Cond.instanceMethod yX2_clear ∈ lw_g := lw_in (List.mem_of_getElem? (i := 291) (by decide +kernel)) rfl
theorem mw_292 : Cond.selects RX2 yX2_clear yX2_clear ∈ lw_g := lw_in (List.mem_of_getElem? (i := 292) (by decide +kernel)) rfl
theorem kX3_50 : CallV RX3 50 yX2_clear iX2_clear 0 := ⟨mw_290, mw_291, mw_292, mw_82, mw_293, by decide +kernel, by decide⟩
theorem fX3_18 : FldOK RX3 18 4 11 := ⟨RX3, TX3, 12, rfl, by decide, inG4, mw_218⟩
theorem mw_200 : Cond.fieldLink RX3 53 "LockSimulator$Lock" "entries" "I" ∈ lw_g := lw_in (List.mem_of_getElem? (i := 200) (by decide +kernel)) rfl
theorem fX3_53 : FldOK RX3 53 4 4 := ⟨RX3, TX3, 12, rfl, by decide, inG4, mw_200⟩
theorem mw_573 : Cond.methodLink RX3 56 yX3_isHeld ∈ lw_g := lw_in (List.mem_of_getElem? (i := 573) (by decide +kernel)) rfl
theorem mw_523 : Cond.code yX3_isHeld cX3_isHeld 1 (some .boolean) ∈ lw_g := lw_in (List.mem_of_getElem? (i := 523) (by decide +kernel)) rfl
theorem mw_521 : Cond.instanceMethod yX3_isHeld ∈ lw_g := lw_in (List.mem_of_getElem? (i := 521) (by decide +kernel)) rfl
theorem mw_522 : Cond.selects RX3 yX3_isHeld yX3_isHeld ∈ lw_g := lw_in (List.mem_of_getElem? (i := 522) (by decide +kernel)) rfl
theorem kX3_56 : CallV RX3 56 yX3_isHeld iX3_isHeld 0 := ⟨mw_573, mw_521, mw_522, mw_81, mw_523, by decide +kernel, by decide⟩
theorem mw_197 : Cond.fieldLink RX3 60 "LockSimulator$Lock" "holder" "I" ∈ lw_g := lw_in (List.mem_of_getElem? (i := 197) (by decide +kernel)) rfl
theorem fX3_60 : FldOK RX3 60 4 3 := ⟨RX3, TX3, 12, rfl, by decide, inG4, mw_197⟩
theorem fX3_28 : FldOK RX3 28 4 2 := ⟨RX3, TX3, 12, rfl, by decide, inG4, mw_194⟩
theorem pX3_60 : PutOK RX3 60 4 3 .int false := ⟨RX3, TX3, 12, tyX3, rfl, by decide, inG4, mw_197, tyX3_ok, nmX3, rfl, by decide +kernel, fun h => by cases h⟩
theorem pX3_53 : PutOK RX3 53 4 4 .int false := ⟨RX3, TX3, 12, tyX3, rfl, by decide, inG4, mw_200, tyX3_ok, nmX3, rfl, by decide +kernel, fun h => by cases h⟩
theorem mw_857 : Cond.methodLink RX3 66 yX3_stateWord ∈ lw_g := lw_in (List.mem_of_getElem? (i := 857) (by decide +kernel)) rfl
theorem mw_860 : Cond.code yX3_stateWord cX3_stateWord 1 (some (.object "java/lang/String")) ∈ lw_g := lw_in (List.mem_of_getElem? (i := 860) (by decide +kernel)) rfl
theorem mw_859 : Cond.instanceMethod yX3_stateWord ∈ lw_g := lw_in (List.mem_of_getElem? (i := 859) (by decide +kernel)) rfl
theorem mw_34 : Cond.selects RX3 yX3_stateWord yX3_stateWord ∈ lw_g := lw_in (List.mem_of_getElem? (i := 34) (by decide +kernel)) rfl
theorem kX3_66 : CallV RX3 66 yX3_stateWord iX3_stateWord 0 := ⟨mw_857, mw_859, mw_34, mw_81, mw_860, by decide +kernel, by decide⟩
theorem mw_866 : Cond.methodLink RX3 70 yJ4_append_15ec4 ∈ lw_g := lw_in (List.mem_of_getElem? (i := 866) (by decide +kernel)) rfl
theorem mw_869 : Cond.code yJ4_append_15ec4 cJ4_append_15ec4 2 (some (.object "java/lang/StringBuilder")) ∈ lw_g := lw_in (List.mem_of_getElem? (i := 869) (by decide +kernel)) rfl
theorem mw_867 : Cond.instanceMethod yJ4_append_15ec4 ∈ lw_g := lw_in (List.mem_of_getElem? (i := 867) (by decide +kernel)) rfl
theorem mw_868 : Cond.selects RJ4 yJ4_append_15ec4 yJ4_append_15ec4 ∈ lw_g := lw_in (List.mem_of_getElem? (i := 868) (by decide +kernel)) rfl
theorem kX3_70 : CallV RX3 70 yJ4_append_15ec4 iJ4_append_15ec4 1 := ⟨mw_866, mw_867, mw_868, mw_88, mw_869, by decide +kernel, by decide⟩
theorem fX3_34 : FldOK RX3 34 4 5 := ⟨RX3, TX3, 12, rfl, by decide, inG4, mw_203⟩
theorem mw_947 : Cond.methodLink RX3 78 yJ4_append_bf812 ∈ lw_g := lw_in (List.mem_of_getElem? (i := 947) (by decide +kernel)) rfl
theorem kX3_78 : CallV RX3 78 yJ4_append_bf812 iJ4_append_bf812 1 := ⟨mw_947, mw_948, mw_949, mw_88, mw_950, by decide +kernel, by decide⟩
theorem mw_976 : Cond.methodLink RX3 89 yX2_isEmpty ∈ lw_g := lw_in (List.mem_of_getElem? (i := 976) (by decide +kernel)) rfl
theorem mw_601 : Cond.code yX2_isEmpty cX2_isEmpty 1 (some .boolean) ∈ lw_g := lw_in (List.mem_of_getElem? (i := 601) (by decide +kernel)) rfl
theorem mw_599 : Cond.instanceMethod yX2_isEmpty ∈ lw_g := lw_in (List.mem_of_getElem? (i := 599) (by decide +kernel)) rfl
theorem mw_600 : Cond.selects RX2 yX2_isEmpty yX2_isEmpty ∈ lw_g := lw_in (List.mem_of_getElem? (i := 600) (by decide +kernel)) rfl
theorem kX3_89 : CallV RX3 89 yX2_isEmpty iX2_isEmpty 0 := ⟨mw_976, mw_599, mw_600, mw_82, mw_601, by decide +kernel, by decide⟩
theorem mw_978 : Cond.methodLink RX3 94 yX2_putMembers ∈ lw_g := lw_in (List.mem_of_getElem? (i := 978) (by decide +kernel)) rfl
theorem mw_981 : Cond.code yX2_putMembers cX2_putMembers 3 none ∈ lw_g := lw_in (List.mem_of_getElem? (i := 981) (by decide +kernel)) rfl
theorem mw_979 : Cond.instanceMethod yX2_putMembers ∈ lw_g := lw_in (List.mem_of_getElem? (i := 979) (by decide +kernel)) rfl
theorem mw_980 : Cond.selects RX2 yX2_putMembers yX2_putMembers ∈ lw_g := lw_in (List.mem_of_getElem? (i := 980) (by decide +kernel)) rfl
theorem kX3_94 : CallV RX3 94 yX2_putMembers iX2_putMembers 1 := ⟨mw_978, mw_979, mw_980, mw_82, mw_981, by decide +kernel, by decide⟩
theorem fX3_44 : FldOK RX3 44 4 8 := ⟨RX3, TX3, 12, rfl, by decide, inG4, mw_211⟩
theorem fX3_40 : FldOK RX3 40 4 7 := ⟨RX3, TX3, 12, rfl, by decide, inG4, mw_208⟩
theorem fX3_37 : FldOK RX3 37 4 6 := ⟨RX3, TX3, 12, rfl, by decide, inG4, mw_206⟩
theorem fX3_47 : FldOK RX3 47 4 9 := ⟨RX3, TX3, 12, rfl, by decide, inG4, mw_213⟩
theorem mw_1168 : Cond.methodLink RX3 114 yX2_copyFrom ∈ lw_g := lw_in (List.mem_of_getElem? (i := 1168) (by decide +kernel)) rfl
theorem mw_1171 : Cond.code yX2_copyFrom cX2_copyFrom 2 none ∈ lw_g := lw_in (List.mem_of_getElem? (i := 1171) (by decide +kernel)) rfl
theorem mw_1169 : Cond.instanceMethod yX2_copyFrom ∈ lw_g := lw_in (List.mem_of_getElem? (i := 1169) (by decide +kernel)) rfl
theorem mw_1170 : Cond.selects RX2 yX2_copyFrom yX2_copyFrom ∈ lw_g := lw_in (List.mem_of_getElem? (i := 1170) (by decide +kernel)) rfl
theorem kX3_114 : CallV RX3 114 yX2_copyFrom iX2_copyFrom 1 := ⟨mw_1168, mw_1169, mw_1170, mw_82, mw_1171, by decide +kernel, by decide⟩
theorem kX5_3 : Cond.methodLink RX5 3 objectInit ∈ lw_g := lw_in (List.mem_of_getElem? (i := 362) (by decide +kernel)) rfl
theorem mw_363 : Cond.fieldLink RX5 11 "LockSimulator$Script" "codes" "[I" ∈ lw_g := lw_in (List.mem_of_getElem? (i := 363) (by decide +kernel)) rfl
theorem pX5_11 : PutOK RX5 11 5 0 (.array .int) true := ⟨RX5, TX5, 4, tyX5, rfl, by decide, inG5, mw_363, tyX5_ok, nmX5, rfl, by decide +kernel, fun _ => rfl⟩
theorem mw_364 : Cond.fieldLink RX5 15 "LockSimulator$Script" "arguments" "[I" ∈ lw_g := lw_in (List.mem_of_getElem? (i := 364) (by decide +kernel)) rfl
theorem pX5_15 : PutOK RX5 15 5 1 (.array .int) true := ⟨RX5, TX5, 4, tyX5, rfl, by decide, inG5, mw_364, tyX5_ok, nmX5, rfl, by decide +kernel, fun _ => rfl⟩
theorem mw_366 : Cond.fieldLink RX5 18 "LockSimulator$Script" "length" "I" ∈ lw_g := lw_in (List.mem_of_getElem? (i := 366) (by decide +kernel)) rfl
theorem fX5_18 : FldOK RX5 18 5 3 := ⟨RX5, TX5, 4, rfl, by decide, inG5, mw_366⟩
theorem fX5_11 : FldOK RX5 11 5 0 := ⟨RX5, TX5, 4, rfl, by decide, inG5, mw_363⟩
theorem pX5_18 : PutOK RX5 18 5 3 .int false := ⟨RX5, TX5, 4, tyX5, rfl, by decide, inG5, mw_366, tyX5_ok, nmX5, rfl, by decide +kernel, fun h => by cases h⟩
theorem mw_1081 : Cond.methodLink RX5 22 yX5_endOfItem ∈ lw_g := lw_in (List.mem_of_getElem? (i := 1081) (by decide +kernel)) rfl
theorem mw_86 : Cond.initialized RX5 ∈ lw_g := lw_in (List.mem_of_getElem? (i := 86) (by decide +kernel)) rfl
theorem mw_1084 : Cond.code yX5_endOfItem cX5_endOfItem 3 (some .int) ∈ lw_g := lw_in (List.mem_of_getElem? (i := 1084) (by decide +kernel)) rfl
theorem mw_1082 : Cond.instanceMethod yX5_endOfItem ∈ lw_g := lw_in (List.mem_of_getElem? (i := 1082) (by decide +kernel)) rfl
theorem mw_1083 : Cond.selects RX5 yX5_endOfItem yX5_endOfItem ∈ lw_g := lw_in (List.mem_of_getElem? (i := 1083) (by decide +kernel)) rfl
theorem kX5_22 : CallV RX5 22 yX5_endOfItem iX5_endOfItem 1 := ⟨mw_1081, mw_1082, mw_1083, mw_86, mw_1084, by decide +kernel, by decide⟩
theorem mw_1086 : Cond.methodLink RX5 26 yX5_readItem ∈ lw_g := lw_in (List.mem_of_getElem? (i := 1086) (by decide +kernel)) rfl
theorem mw_1089 : Cond.code yX5_readItem cX5_readItem 4 (some .int) ∈ lw_g := lw_in (List.mem_of_getElem? (i := 1089) (by decide +kernel)) rfl
theorem mw_1087 : Cond.instanceMethod yX5_readItem ∈ lw_g := lw_in (List.mem_of_getElem? (i := 1087) (by decide +kernel)) rfl
theorem mw_1088 : Cond.selects RX5 yX5_readItem yX5_readItem ∈ lw_g := lw_in (List.mem_of_getElem? (i := 1088) (by decide +kernel)) rfl
theorem kX5_26 : CallV RX5 26 yX5_readItem iX5_readItem 2 := ⟨mw_1086, mw_1087, mw_1088, mw_86, mw_1089, by decide +kernel, by decide⟩
theorem mw_1085 : Cond.methodLink RX5 30 yJ9_max_7cf53 ∈ lw_g := lw_in (List.mem_of_getElem? (i := 1085) (by decide +kernel)) rfl
theorem mw_94 : Cond.initialized RJ9 ∈ lw_g := lw_in (List.mem_of_getElem? (i := 94) (by decide +kernel)) rfl
theorem mw_815 : Cond.code yJ9_max_7cf53 cJ9_max_7cf53 2 (some .int) ∈ lw_g := lw_in (List.mem_of_getElem? (i := 815) (by decide +kernel)) rfl
theorem mw_814 : Cond.static yJ9_max_7cf53 ∈ lw_g := lw_in (List.mem_of_getElem? (i := 814) (by decide +kernel)) rfl
theorem kX5_30 : CallS RX5 30 yJ9_max_7cf53 iJ9_max_7cf53 2 := ⟨mw_1085, mw_814, mw_94, mw_815, by decide +kernel, by decide⟩
theorem mw_1090 : Cond.methodLink RX5 37 yX4_form ∈ lw_g := lw_in (List.mem_of_getElem? (i := 1090) (by decide +kernel)) rfl
theorem mw_100 : Cond.initialized RX4 ∈ lw_g := lw_in (List.mem_of_getElem? (i := 100) (by decide +kernel)) rfl
theorem mw_1092 : Cond.code yX4_form cX4_form 1 (some (.object "java/lang/String")) ∈ lw_g := lw_in (List.mem_of_getElem? (i := 1092) (by decide +kernel)) rfl
theorem mw_1091 : Cond.static yX4_form ∈ lw_g := lw_in (List.mem_of_getElem? (i := 1091) (by decide +kernel)) rfl
theorem kX5_37 : CallS RX5 37 yX4_form iX4_form 1 := ⟨mw_1090, mw_1091, mw_100, mw_1092, by decide +kernel, by decide⟩
theorem mw_1103 : Cond.methodLink RX5 41 yX5_hasForm ∈ lw_g := lw_in (List.mem_of_getElem? (i := 1103) (by decide +kernel)) rfl
theorem mw_1106 : Cond.code yX5_hasForm cX5_hasForm 7 (some .boolean) ∈ lw_g := lw_in (List.mem_of_getElem? (i := 1106) (by decide +kernel)) rfl
theorem mw_1105 : Cond.instanceMethod yX5_hasForm ∈ lw_g := lw_in (List.mem_of_getElem? (i := 1105) (by decide +kernel)) rfl
theorem mw_36 : Cond.selects RX5 yX5_hasForm yX5_hasForm ∈ lw_g := lw_in (List.mem_of_getElem? (i := 36) (by decide +kernel)) rfl
theorem kX5_41 : CallV RX5 41 yX5_hasForm iX5_hasForm 3 := ⟨mw_1103, mw_1105, mw_36, mw_86, mw_1106, by decide +kernel, by decide⟩
theorem mw_365 : Cond.fieldLink RX5 45 "LockSimulator$Script" "argumentCount" "I" ∈ lw_g := lw_in (List.mem_of_getElem? (i := 365) (by decide +kernel)) rfl
theorem fX5_45 : FldOK RX5 45 5 2 := ⟨RX5, TX5, 4, rfl, by decide, inG5, mw_365⟩
theorem fX5_15 : FldOK RX5 15 5 1 := ⟨RX5, TX5, 4, rfl, by decide, inG5, mw_364⟩
theorem pX5_45 : PutOK RX5 45 5 2 .int false := ⟨RX5, TX5, 4, tyX5, rfl, by decide, inG5, mw_365, tyX5_ok, nmX5, rfl, by decide +kernel, fun h => by cases h⟩
theorem mw_1107 : Cond.methodLink RX5 48 yJ0_length_8abf5 ∈ lw_g := lw_in (List.mem_of_getElem? (i := 1107) (by decide +kernel)) rfl
theorem mw_89 : Cond.initialized RJ0 ∈ lw_g := lw_in (List.mem_of_getElem? (i := 89) (by decide +kernel)) rfl
theorem mw_906 : Cond.code yJ0_length_8abf5 cJ0_length_8abf5 1 (some .int) ∈ lw_g := lw_in (List.mem_of_getElem? (i := 906) (by decide +kernel)) rfl
theorem mw_904 : Cond.instanceMethod yJ0_length_8abf5 ∈ lw_g := lw_in (List.mem_of_getElem? (i := 904) (by decide +kernel)) rfl
theorem mw_905 : Cond.selects RJ0 yJ0_length_8abf5 yJ0_length_8abf5 ∈ lw_g := lw_in (List.mem_of_getElem? (i := 905) (by decide +kernel)) rfl
theorem kX5_48 : CallV RX5 48 yJ0_length_8abf5 iJ0_length_8abf5 0 := ⟨mw_1107, mw_904, mw_905, mw_89, mw_906, by decide +kernel, by decide⟩
theorem mw_1108 : Cond.methodLink RX5 53 yJ0_charAt_5068e ∈ lw_g := lw_in (List.mem_of_getElem? (i := 1108) (by decide +kernel)) rfl
theorem mw_1111 : Cond.code yJ0_charAt_5068e cJ0_charAt_5068e 2 (some .char) ∈ lw_g := lw_in (List.mem_of_getElem? (i := 1111) (by decide +kernel)) rfl
theorem mw_1109 : Cond.instanceMethod yJ0_charAt_5068e ∈ lw_g := lw_in (List.mem_of_getElem? (i := 1109) (by decide +kernel)) rfl
theorem mw_1110 : Cond.selects RJ0 yJ0_charAt_5068e yJ0_charAt_5068e ∈ lw_g := lw_in (List.mem_of_getElem? (i := 1110) (by decide +kernel)) rfl
theorem kX5_53 : CallV RX5 53 yJ0_charAt_5068e iJ0_charAt_5068e 1 := ⟨mw_1108, mw_1109, mw_1110, mw_89, mw_1111, by decide +kernel, by decide⟩
theorem mw_1128 : Cond.methodLink RX5 57 yX5_matchSign ∈ lw_g := lw_in (List.mem_of_getElem? (i := 1128) (by decide +kernel)) rfl
theorem mw_1131 : Cond.code yX5_matchSign cX5_matchSign 4 (some .int) ∈ lw_g := lw_in (List.mem_of_getElem? (i := 1131) (by decide +kernel)) rfl
theorem mw_1130 : Cond.instanceMethod yX5_matchSign ∈ lw_g := lw_in (List.mem_of_getElem? (i := 1130) (by decide +kernel)) rfl
theorem mw_37 : Cond.selects RX5 yX5_matchSign yX5_matchSign ∈ lw_g := lw_in (List.mem_of_getElem? (i := 37) (by decide +kernel)) rfl
theorem kX5_57 : CallV RX5 57 yX5_matchSign iX5_matchSign 3 := ⟨mw_1128, mw_1130, mw_37, mw_86, mw_1131, by decide +kernel, by decide⟩
theorem mw_1132 : Cond.methodLink RX5 61 yX5_matchNumber ∈ lw_g := lw_in (List.mem_of_getElem? (i := 1132) (by decide +kernel)) rfl
theorem mw_1135 : Cond.code yX5_matchNumber cX5_matchNumber 6 (some .int) ∈ lw_g := lw_in (List.mem_of_getElem? (i := 1135) (by decide +kernel)) rfl
theorem mw_1134 : Cond.instanceMethod yX5_matchNumber ∈ lw_g := lw_in (List.mem_of_getElem? (i := 1134) (by decide +kernel)) rfl
theorem mw_38 : Cond.selects RX5 yX5_matchNumber yX5_matchNumber ∈ lw_g := lw_in (List.mem_of_getElem? (i := 38) (by decide +kernel)) rfl
theorem kX5_61 : CallV RX5 61 yX5_matchNumber iX5_matchNumber 3 := ⟨mw_1132, mw_1134, mw_38, mw_86, mw_1135, by decide +kernel, by decide⟩
theorem mw_1136 : Cond.methodLink RX5 65 yX5_isDigit ∈ lw_g := lw_in (List.mem_of_getElem? (i := 1136) (by decide +kernel)) rfl
theorem mw_1139 : Cond.code yX5_isDigit cX5_isDigit 2 (some .boolean) ∈ lw_g := lw_in (List.mem_of_getElem? (i := 1139) (by decide +kernel)) rfl
theorem mw_1138 : Cond.instanceMethod yX5_isDigit ∈ lw_g := lw_in (List.mem_of_getElem? (i := 1138) (by decide +kernel)) rfl
theorem mw_39 : Cond.selects RX5 yX5_isDigit yX5_isDigit ∈ lw_g := lw_in (List.mem_of_getElem? (i := 39) (by decide +kernel)) rfl
theorem kX5_65 : CallV RX5 65 yX5_isDigit iX5_isDigit 1 := ⟨mw_1136, mw_1138, mw_39, mw_86, mw_1139, by decide +kernel, by decide⟩
theorem kX6_1 : Cond.methodLink RX6 1 objectInit ∈ lw_g := lw_in (List.mem_of_getElem? (i := 120) (by decide +kernel)) rfl
theorem mw_126 : Cond.fieldLink RX6 9 "LockSimulator$Settings" "values" "[I" ∈ lw_g := lw_in (List.mem_of_getElem? (i := 126) (by decide +kernel)) rfl
theorem pX6_9 : PutOK RX6 9 6 0 (.array .int) true := ⟨RX6, TX6, 1, tyX6, rfl, by decide, inG6, mw_126, tyX6_ok, nmX6, rfl, by decide +kernel, fun _ => rfl⟩
theorem mw_121 : Cond.fieldLink RX6 13 "LockSimulator$Settings" "FIRST" "[I" ∈ lw_g := lw_in (List.mem_of_getElem? (i := 121) (by decide +kernel)) rfl
theorem sX6_13 : Cond.fieldLink RX6 13 "LockSimulator$Settings" "FIRST" "[I" ∈ lw_g := mw_121
theorem fX6_9 : FldOK RX6 9 6 0 := ⟨RX6, TX6, 1, rfl, by decide, inG6, mw_126⟩
theorem kX6_16 : Cond.methodLink RX6 16 arraycopyName ∈ lw_g := lw_in (List.mem_of_getElem? (i := 123) (by decide +kernel)) rfl
theorem mw_467 : Cond.methodLink RX6 22 yX6_exists ∈ lw_g := lw_in (List.mem_of_getElem? (i := 467) (by decide +kernel)) rfl
theorem mw_78 : Cond.initialized RX6 ∈ lw_g := lw_in (List.mem_of_getElem? (i := 78) (by decide +kernel)) rfl
theorem mw_469 : Cond.code yX6_exists cX6_exists 1 (some .boolean) ∈ lw_g := lw_in (List.mem_of_getElem? (i := 469) (by decide +kernel)) rfl
theorem mw_468 : Cond.static yX6_exists ∈ lw_g := lw_in (List.mem_of_getElem? (i := 468) (by decide +kernel)) rfl
theorem kX6_22 : CallS RX6 22 yX6_exists iX6_exists 1 := ⟨mw_467, mw_468, mw_78, mw_469, by decide +kernel, by decide⟩
theorem mw_470 : Cond.fieldLink RX6 26 "LockSimulator$Settings" "LEAST" "[I" ∈ lw_g := lw_in (List.mem_of_getElem? (i := 470) (by decide +kernel)) rfl
theorem sX6_26 : Cond.fieldLink RX6 26 "LockSimulator$Settings" "LEAST" "[I" ∈ lw_g := mw_470
theorem mw_472 : Cond.fieldLink RX6 29 "LockSimulator$Settings" "GREATEST" "[I" ∈ lw_g := lw_in (List.mem_of_getElem? (i := 472) (by decide +kernel)) rfl
theorem sX6_29 : Cond.fieldLink RX6 29 "LockSimulator$Settings" "GREATEST" "[I" ∈ lw_g := mw_472
theorem mw_483 : Cond.methodLink RX6 32 yX6_allows ∈ lw_g := lw_in (List.mem_of_getElem? (i := 483) (by decide +kernel)) rfl
theorem mw_466 : Cond.code yX6_allows cX6_allows 2 (some .boolean) ∈ lw_g := lw_in (List.mem_of_getElem? (i := 466) (by decide +kernel)) rfl
theorem mw_465 : Cond.static yX6_allows ∈ lw_g := lw_in (List.mem_of_getElem? (i := 465) (by decide +kernel)) rfl
theorem kX6_32 : CallS RX6 32 yX6_allows iX6_allows 2 := ⟨mw_483, mw_465, mw_78, mw_466, by decide +kernel, by decide⟩
theorem kX7_1 : Cond.methodLink RX7 1 objectInit ∈ lw_g := lw_in (List.mem_of_getElem? (i := 415) (by decide +kernel)) rfl
theorem mw_416 : Cond.classLink RX7 7 RX10 ∈ lw_g := lw_in (List.mem_of_getElem? (i := 416) (by decide +kernel)) rfl
theorem mw_110 : Cond.instantiable RX10 8 ∈ lw_g := lw_in (List.mem_of_getElem? (i := 110) (by decide +kernel)) rfl
theorem mw_77 : Cond.initialized RX10 ∈ lw_g := lw_in (List.mem_of_getElem? (i := 77) (by decide +kernel)) rfl
theorem nX7_7 : NewOK RX7 7 9 8 [.null, .null, .null, .null, .null, .int 0, .int 0, .int 0] := ⟨RX10, TX10, tyX10, rfl, inG9, tyX10_ok, by decide +kernel, mw_416, mw_110, mw_77⟩
theorem mw_417 : Cond.methodLink RX7 9 yX10_init ∈ lw_g := lw_in (List.mem_of_getElem? (i := 417) (by decide +kernel)) rfl
theorem mw_113 : Cond.code yX10_init cX10_init 2 none ∈ lw_g := lw_in (List.mem_of_getElem? (i := 113) (by decide +kernel)) rfl
theorem mw_112 : Cond.instanceMethod yX10_init ∈ lw_g := lw_in (List.mem_of_getElem? (i := 112) (by decide +kernel)) rfl
theorem kX7_9 : CallI RX7 9 yX10_init iX10_init 0 := ⟨mw_417, mw_112, rfl, mw_77, mw_113, by decide +kernel, by decide, rfl⟩
theorem mw_420 : Cond.fieldLink RX7 10 "LockSimulator$Slot" "world" "LLockSimulator$World;" ∈ lw_g := lw_in (List.mem_of_getElem? (i := 420) (by decide +kernel)) rfl
theorem pX7_10 : PutOK RX7 10 7 0 (.object "LockSimulator$World") true := ⟨RX7, TX7, 3, tyX7, rfl, by decide, inG7, mw_420, tyX7_ok, nmX7, rfl, by decide +kernel, fun _ => rfl⟩
theorem mw_418 : Cond.classLink RX7 16 RX0 ∈ lw_g := lw_in (List.mem_of_getElem? (i := 418) (by decide +kernel)) rfl
theorem mw_331 : Cond.instantiable RX0 5 ∈ lw_g := lw_in (List.mem_of_getElem? (i := 331) (by decide +kernel)) rfl
theorem mw_85 : Cond.initialized RX0 ∈ lw_g := lw_in (List.mem_of_getElem? (i := 85) (by decide +kernel)) rfl
theorem nX7_16 : NewOK RX7 16 1 5 [.null, .null, .null, .null, .int 0] := ⟨RX0, TX0, tyX0, rfl, inG1, tyX0_ok, by decide +kernel, mw_418, mw_331, mw_85⟩
theorem mw_419 : Cond.methodLink RX7 18 yX0_init ∈ lw_g := lw_in (List.mem_of_getElem? (i := 419) (by decide +kernel)) rfl
theorem mw_334 : Cond.code yX0_init cX0_init 1 none ∈ lw_g := lw_in (List.mem_of_getElem? (i := 334) (by decide +kernel)) rfl
theorem mw_333 : Cond.instanceMethod yX0_init ∈ lw_g := lw_in (List.mem_of_getElem? (i := 333) (by decide +kernel)) rfl
theorem kX7_18 : CallI RX7 18 yX0_init iX0_init 0 := ⟨mw_419, mw_333, rfl, mw_85, mw_334, by decide +kernel, by decide, rfl⟩
theorem mw_422 : Cond.fieldLink RX7 19 "LockSimulator$Slot" "journal" "LLockSimulator$Journal;" ∈ lw_g := lw_in (List.mem_of_getElem? (i := 422) (by decide +kernel)) rfl
theorem pX7_19 : PutOK RX7 19 7 1 (.object "LockSimulator$Journal") true := ⟨RX7, TX7, 3, tyX7, rfl, by decide, inG7, mw_422, tyX7_ok, nmX7, rfl, by decide +kernel, fun _ => rfl⟩
theorem kX8_3 : Cond.methodLink RX8 3 objectInit ∈ lw_g := lw_in (List.mem_of_getElem? (i := 141) (by decide +kernel)) rfl
theorem mw_142 : Cond.fieldLink RX8 11 "LockSimulator$Strand" "state" "I" ∈ lw_g := lw_in (List.mem_of_getElem? (i := 142) (by decide +kernel)) rfl
theorem pX8_11 : PutOK RX8 11 8 0 .int false := ⟨RX8, TX8, 6, tyX8, rfl, by decide, inG8, mw_142, tyX8_ok, nmX8, rfl, by decide +kernel, fun h => by cases h⟩
theorem mw_145 : Cond.fieldLink RX8 15 "LockSimulator$Strand" "interrupted" "Z" ∈ lw_g := lw_in (List.mem_of_getElem? (i := 145) (by decide +kernel)) rfl
theorem pX8_15 : PutOK RX8 15 8 1 .boolean false := ⟨RX8, TX8, 6, tyX8, rfl, by decide, inG8, mw_145, tyX8_ok, nmX8, rfl, by decide +kernel, fun h => by cases h⟩
theorem mw_148 : Cond.fieldLink RX8 19 "LockSimulator$Strand" "place" "I" ∈ lw_g := lw_in (List.mem_of_getElem? (i := 148) (by decide +kernel)) rfl
theorem pX8_19 : PutOK RX8 19 8 2 .int false := ⟨RX8, TX8, 6, tyX8, rfl, by decide, inG8, mw_148, tyX8_ok, nmX8, rfl, by decide +kernel, fun h => by cases h⟩
theorem mw_151 : Cond.fieldLink RX8 22 "LockSimulator$Strand" "limit" "I" ∈ lw_g := lw_in (List.mem_of_getElem? (i := 151) (by decide +kernel)) rfl
theorem pX8_22 : PutOK RX8 22 8 3 .int false := ⟨RX8, TX8, 6, tyX8, rfl, by decide, inG8, mw_151, tyX8_ok, nmX8, rfl, by decide +kernel, fun h => by cases h⟩
theorem mw_153 : Cond.fieldLink RX8 25 "LockSimulator$Strand" "dueEntries" "I" ∈ lw_g := lw_in (List.mem_of_getElem? (i := 153) (by decide +kernel)) rfl
theorem pX8_25 : PutOK RX8 25 8 4 .int false := ⟨RX8, TX8, 6, tyX8, rfl, by decide, inG8, mw_153, tyX8_ok, nmX8, rfl, by decide +kernel, fun h => by cases h⟩
theorem mw_155 : Cond.fieldLink RX8 28 "LockSimulator$Strand" "waitEnding" "I" ∈ lw_g := lw_in (List.mem_of_getElem? (i := 155) (by decide +kernel)) rfl
theorem pX8_28 : PutOK RX8 28 8 5 .int false := ⟨RX8, TX8, 6, tyX8, rfl, by decide, inG8, mw_155, tyX8_ok, nmX8, rfl, by decide +kernel, fun h => by cases h⟩
theorem fX8_11 : FldOK RX8 11 8 0 := ⟨RX8, TX8, 6, rfl, by decide, inG8, mw_142⟩
theorem fX8_15 : FldOK RX8 15 8 1 := ⟨RX8, TX8, 6, rfl, by decide, inG8, mw_145⟩
theorem fX8_19 : FldOK RX8 19 8 2 := ⟨RX8, TX8, 6, rfl, by decide, inG8, mw_148⟩
theorem fX8_22 : FldOK RX8 22 8 3 := ⟨RX8, TX8, 6, rfl, by decide, inG8, mw_151⟩
theorem fX8_25 : FldOK RX8 25 8 4 := ⟨RX8, TX8, 6, rfl, by decide, inG8, mw_153⟩
theorem fX8_28 : FldOK RX8 28 8 5 := ⟨RX8, TX8, 6, rfl, by decide, inG8, mw_155⟩
theorem mw_1033 : Cond.fieldLink RX9 9 "LockSimulator$Tally" "PRICES" "[I" ∈ lw_g := lw_in (List.mem_of_getElem? (i := 1033) (by decide +kernel)) rfl
theorem sX9_9 : Cond.fieldLink RX9 9 "LockSimulator$Tally" "PRICES" "[I" ∈ lw_g := mw_1033
theorem kX10_3 : Cond.methodLink RX10 3 objectInit ∈ lw_g := lw_in (List.mem_of_getElem? (i := 114) (by decide +kernel)) rfl
theorem mw_115 : Cond.classLink RX10 9 RX6 ∈ lw_g := lw_in (List.mem_of_getElem? (i := 115) (by decide +kernel)) rfl
theorem mw_116 : Cond.instantiable RX6 1 ∈ lw_g := lw_in (List.mem_of_getElem? (i := 116) (by decide +kernel)) rfl
theorem nX10_9 : NewOK RX10 9 6 1 [.null] := ⟨RX6, TX6, tyX6, rfl, inG6, tyX6_ok, by decide +kernel, mw_115, mw_116, mw_78⟩
theorem mw_117 : Cond.methodLink RX10 11 yX6_init ∈ lw_g := lw_in (List.mem_of_getElem? (i := 117) (by decide +kernel)) rfl
theorem mw_119 : Cond.code yX6_init cX6_init 1 none ∈ lw_g := lw_in (List.mem_of_getElem? (i := 119) (by decide +kernel)) rfl
theorem mw_118 : Cond.instanceMethod yX6_init ∈ lw_g := lw_in (List.mem_of_getElem? (i := 118) (by decide +kernel)) rfl
theorem kX10_11 : CallI RX10 11 yX6_init iX6_init 0 := ⟨mw_117, mw_118, rfl, mw_78, mw_119, by decide +kernel, by decide, rfl⟩
theorem mw_298 : Cond.fieldLink RX10 12 "LockSimulator$World" "settings" "LLockSimulator$Settings;" ∈ lw_g := lw_in (List.mem_of_getElem? (i := 298) (by decide +kernel)) rfl
theorem pX10_12 : PutOK RX10 12 9 0 (.object "LockSimulator$Settings") true := ⟨RX10, TX10, 8, tyX10, rfl, by decide, inG9, mw_298, tyX10_ok, nmX10, rfl, by decide +kernel, fun _ => rfl⟩
theorem mw_300 : Cond.fieldLink RX10 20 "LockSimulator$World" "counts" "[I" ∈ lw_g := lw_in (List.mem_of_getElem? (i := 300) (by decide +kernel)) rfl
theorem pX10_20 : PutOK RX10 20 9 1 (.array .int) true := ⟨RX10, TX10, 8, tyX10, rfl, by decide, inG9, mw_300, tyX10_ok, nmX10, rfl, by decide +kernel, fun _ => rfl⟩
theorem mw_131 : Cond.classLink RX10 24 "LockSimulator$Strand" ∈ lw_g := lw_in (List.mem_of_getElem? (i := 131) (by decide +kernel)) rfl
theorem aX10_24 : Cond.classLink RX10 24 "LockSimulator$Strand" ∈ lw_g := mw_131
theorem mw_302 : Cond.fieldLink RX10 26 "LockSimulator$World" "strands" "[LLockSimulator$Strand;" ∈ lw_g := lw_in (List.mem_of_getElem? (i := 302) (by decide +kernel)) rfl
theorem pX10_26 : PutOK RX10 26 9 2 (.array (.object "LockSimulator$Strand")) true := ⟨RX10, TX10, 8, tyX10, rfl, by decide, inG9, mw_302, tyX10_ok, nmX10, rfl, by decide +kernel, fun _ => rfl⟩
theorem mw_133 : Cond.classLink RX10 30 "LockSimulator$Lock" ∈ lw_g := lw_in (List.mem_of_getElem? (i := 133) (by decide +kernel)) rfl
theorem aX10_30 : Cond.classLink RX10 30 "LockSimulator$Lock" ∈ lw_g := mw_133
theorem mw_304 : Cond.fieldLink RX10 32 "LockSimulator$World" "locks" "[LLockSimulator$Lock;" ∈ lw_g := lw_in (List.mem_of_getElem? (i := 304) (by decide +kernel)) rfl
theorem pX10_32 : PutOK RX10 32 9 3 (.array (.object "LockSimulator$Lock")) true := ⟨RX10, TX10, 8, tyX10, rfl, by decide, inG9, mw_304, tyX10_ok, nmX10, rfl, by decide +kernel, fun _ => rfl⟩
theorem mw_135 : Cond.classLink RX10 36 "LockSimulator$Kind" ∈ lw_g := lw_in (List.mem_of_getElem? (i := 135) (by decide +kernel)) rfl
theorem aX10_36 : Cond.classLink RX10 36 "LockSimulator$Kind" ∈ lw_g := mw_135
theorem mw_306 : Cond.fieldLink RX10 38 "LockSimulator$World" "kinds" "[LLockSimulator$Kind;" ∈ lw_g := lw_in (List.mem_of_getElem? (i := 306) (by decide +kernel)) rfl
theorem pX10_38 : PutOK RX10 38 9 4 (.array (.object "LockSimulator$Kind")) true := ⟨RX10, TX10, 8, tyX10, rfl, by decide, inG9, mw_306, tyX10_ok, nmX10, rfl, by decide +kernel, fun _ => rfl⟩
theorem fX10_26 : FldOK RX10 26 9 2 := ⟨RX10, TX10, 8, rfl, by decide, inG9, mw_302⟩
theorem mw_137 : Cond.instantiable RX8 6 ∈ lw_g := lw_in (List.mem_of_getElem? (i := 137) (by decide +kernel)) rfl
theorem mw_80 : Cond.initialized RX8 ∈ lw_g := lw_in (List.mem_of_getElem? (i := 80) (by decide +kernel)) rfl
theorem nX10_24 : NewOK RX10 24 8 6 [.int 0, .int 0, .int 0, .int 0, .int 0, .int 0] := ⟨RX8, TX8, tyX8, rfl, inG8, tyX8_ok, by decide +kernel, mw_131, mw_137, mw_80⟩
theorem mw_138 : Cond.methodLink RX10 42 yX8_init ∈ lw_g := lw_in (List.mem_of_getElem? (i := 138) (by decide +kernel)) rfl
theorem mw_140 : Cond.code yX8_init cX8_init 1 none ∈ lw_g := lw_in (List.mem_of_getElem? (i := 140) (by decide +kernel)) rfl
theorem mw_139 : Cond.instanceMethod yX8_init ∈ lw_g := lw_in (List.mem_of_getElem? (i := 139) (by decide +kernel)) rfl
theorem kX10_42 : CallI RX10 42 yX8_init iX8_init 0 := ⟨mw_138, mw_139, rfl, mw_80, mw_140, by decide +kernel, by decide, rfl⟩
theorem fX10_32 : FldOK RX10 32 9 3 := ⟨RX10, TX10, 8, rfl, by decide, inG9, mw_304⟩
theorem mw_171 : Cond.instantiable RX3 12 ∈ lw_g := lw_in (List.mem_of_getElem? (i := 171) (by decide +kernel)) rfl
theorem nX10_30 : NewOK RX10 30 4 12 [.int 0, .int 0, .int 0, .int 0, .int 0, .int 0, .int 0, .int 0, .int 0, .int 0, .null, .null] := ⟨RX3, TX3, tyX3, rfl, inG4, tyX3_ok, by decide +kernel, mw_133, mw_171, mw_81⟩
theorem mw_172 : Cond.methodLink RX10 43 yX3_init ∈ lw_g := lw_in (List.mem_of_getElem? (i := 172) (by decide +kernel)) rfl
theorem mw_174 : Cond.code yX3_init cX3_init 2 none ∈ lw_g := lw_in (List.mem_of_getElem? (i := 174) (by decide +kernel)) rfl
theorem mw_173 : Cond.instanceMethod yX3_init ∈ lw_g := lw_in (List.mem_of_getElem? (i := 173) (by decide +kernel)) rfl
theorem kX10_43 : CallI RX10 43 yX3_init iX3_init 1 := ⟨mw_172, mw_173, rfl, mw_81, mw_174, by decide +kernel, by decide, rfl⟩
theorem fX10_38 : FldOK RX10 38 9 4 := ⟨RX10, TX10, 8, rfl, by decide, inG9, mw_306⟩
theorem mw_246 : Cond.instantiable RX1 3 ∈ lw_g := lw_in (List.mem_of_getElem? (i := 246) (by decide +kernel)) rfl
theorem mw_83 : Cond.initialized RX1 ∈ lw_g := lw_in (List.mem_of_getElem? (i := 83) (by decide +kernel)) rfl
theorem nX10_36 : NewOK RX10 36 2 3 [.int 0, .int 0, .int 0] := ⟨RX1, TX1, tyX1, rfl, inG2, tyX1_ok, by decide +kernel, mw_135, mw_246, mw_83⟩
theorem mw_247 : Cond.methodLink RX10 46 yX1_init ∈ lw_g := lw_in (List.mem_of_getElem? (i := 247) (by decide +kernel)) rfl
theorem mw_249 : Cond.code yX1_init cX1_init 1 none ∈ lw_g := lw_in (List.mem_of_getElem? (i := 249) (by decide +kernel)) rfl
theorem mw_248 : Cond.instanceMethod yX1_init ∈ lw_g := lw_in (List.mem_of_getElem? (i := 248) (by decide +kernel)) rfl
theorem kX10_46 : CallI RX10 46 yX1_init iX1_init 0 := ⟨mw_247, mw_248, rfl, mw_83, mw_249, by decide +kernel, by decide, rfl⟩
theorem mw_267 : Cond.methodLink RX10 47 yX10_begin ∈ lw_g := lw_in (List.mem_of_getElem? (i := 267) (by decide +kernel)) rfl
theorem mw_270 : Cond.code yX10_begin cX10_begin 7 none ∈ lw_g := lw_in (List.mem_of_getElem? (i := 270) (by decide +kernel)) rfl
theorem mw_268 : Cond.instanceMethod yX10_begin ∈ lw_g := lw_in (List.mem_of_getElem? (i := 268) (by decide +kernel)) rfl
theorem mw_269 : Cond.selects RX10 yX10_begin yX10_begin ∈ lw_g := lw_in (List.mem_of_getElem? (i := 269) (by decide +kernel)) rfl
theorem kX10_47 : CallV RX10 47 yX10_begin iX10_begin 1 := ⟨mw_267, mw_268, mw_269, mw_77, mw_270, by decide +kernel, by decide⟩
theorem mw_308 : Cond.fieldLink RX10 50 "LockSimulator$World" "threadCount" "I" ∈ lw_g := lw_in (List.mem_of_getElem? (i := 308) (by decide +kernel)) rfl
theorem pX10_50 : PutOK RX10 50 9 5 .int false := ⟨RX10, TX10, 8, tyX10, rfl, by decide, inG9, mw_308, tyX10_ok, nmX10, rfl, by decide +kernel, fun h => by cases h⟩
theorem mw_310 : Cond.fieldLink RX10 54 "LockSimulator$World" "now" "I" ∈ lw_g := lw_in (List.mem_of_getElem? (i := 310) (by decide +kernel)) rfl
theorem pX10_54 : PutOK RX10 54 9 6 .int false := ⟨RX10, TX10, 8, tyX10, rfl, by decide, inG9, mw_310, tyX10_ok, nmX10, rfl, by decide +kernel, fun h => by cases h⟩
theorem mw_312 : Cond.fieldLink RX10 57 "LockSimulator$World" "hashesMade" "I" ∈ lw_g := lw_in (List.mem_of_getElem? (i := 312) (by decide +kernel)) rfl
theorem pX10_57 : PutOK RX10 57 9 7 .int false := ⟨RX10, TX10, 8, tyX10, rfl, by decide, inG9, mw_312, tyX10_ok, nmX10, rfl, by decide +kernel, fun h => by cases h⟩
theorem fX10_20 : FldOK RX10 20 9 1 := ⟨RX10, TX10, 8, rfl, by decide, inG9, mw_300⟩
theorem mw_271 : Cond.methodLink RX10 60 yJ7_fill_53178 ∈ lw_g := lw_in (List.mem_of_getElem? (i := 271) (by decide +kernel)) rfl
theorem mw_84 : Cond.initialized RJ7 ∈ lw_g := lw_in (List.mem_of_getElem? (i := 84) (by decide +kernel)) rfl
theorem mw_273 : Cond.code yJ7_fill_53178 cJ7_fill_53178 4 none ∈ lw_g := lw_in (List.mem_of_getElem? (i := 273) (by decide +kernel)) rfl
theorem mw_272 : Cond.static yJ7_fill_53178 ∈ lw_g := lw_in (List.mem_of_getElem? (i := 272) (by decide +kernel)) rfl
theorem kX10_60 : CallS RX10 60 yJ7_fill_53178 iJ7_fill_53178 2 := ⟨mw_271, mw_272, mw_84, mw_273, by decide +kernel, by decide⟩
theorem mw_274 : Cond.methodLink RX10 66 yX8_clear ∈ lw_g := lw_in (List.mem_of_getElem? (i := 274) (by decide +kernel)) rfl
theorem mw_277 : Cond.code yX8_clear cX8_clear 1 none ∈ lw_g := lw_in (List.mem_of_getElem? (i := 277) (by decide +kernel)) rfl
theorem mw_275 : Cond.instanceMethod yX8_clear ∈ lw_g := lw_in (List.mem_of_getElem? (i := 275) (by decide +kernel)) rfl
theorem mw_276 : Cond.selects RX8 yX8_clear yX8_clear ∈ lw_g := lw_in (List.mem_of_getElem? (i := 276) (by decide +kernel)) rfl
theorem kX10_66 : CallV RX10 66 yX8_clear iX8_clear 0 := ⟨mw_274, mw_275, mw_276, mw_80, mw_277, by decide +kernel, by decide⟩
theorem fX10_12 : FldOK RX10 12 9 0 := ⟨RX10, TX10, 8, rfl, by decide, inG9, mw_298⟩
theorem mw_278 : Cond.methodLink RX10 69 yX6_valueOf ∈ lw_g := lw_in (List.mem_of_getElem? (i := 278) (by decide +kernel)) rfl
theorem mw_281 : Cond.code yX6_valueOf cX6_valueOf 2 (some .int) ∈ lw_g := lw_in (List.mem_of_getElem? (i := 281) (by decide +kernel)) rfl
theorem mw_279 : Cond.instanceMethod yX6_valueOf ∈ lw_g := lw_in (List.mem_of_getElem? (i := 279) (by decide +kernel)) rfl
theorem mw_280 : Cond.selects RX6 yX6_valueOf yX6_valueOf ∈ lw_g := lw_in (List.mem_of_getElem? (i := 280) (by decide +kernel)) rfl
theorem kX10_69 : CallV RX10 69 yX6_valueOf iX6_valueOf 1 := ⟨mw_278, mw_279, mw_280, mw_78, mw_281, by decide +kernel, by decide⟩
theorem mw_282 : Cond.methodLink RX10 73 yX3_clear ∈ lw_g := lw_in (List.mem_of_getElem? (i := 282) (by decide +kernel)) rfl
theorem mw_285 : Cond.code yX3_clear cX3_clear 2 none ∈ lw_g := lw_in (List.mem_of_getElem? (i := 285) (by decide +kernel)) rfl
theorem mw_283 : Cond.instanceMethod yX3_clear ∈ lw_g := lw_in (List.mem_of_getElem? (i := 283) (by decide +kernel)) rfl
theorem mw_284 : Cond.selects RX3 yX3_clear yX3_clear ∈ lw_g := lw_in (List.mem_of_getElem? (i := 284) (by decide +kernel)) rfl
theorem kX10_73 : CallV RX10 73 yX3_clear iX3_clear 1 := ⟨mw_282, mw_283, mw_284, mw_81, mw_285, by decide +kernel, by decide⟩
theorem mw_294 : Cond.methodLink RX10 76 yX1_clear ∈ lw_g := lw_in (List.mem_of_getElem? (i := 294) (by decide +kernel)) rfl
theorem mw_297 : Cond.code yX1_clear cX1_clear 1 none ∈ lw_g := lw_in (List.mem_of_getElem? (i := 297) (by decide +kernel)) rfl
theorem mw_295 : Cond.instanceMethod yX1_clear ∈ lw_g := lw_in (List.mem_of_getElem? (i := 295) (by decide +kernel)) rfl
theorem mw_296 : Cond.selects RX1 yX1_clear yX1_clear ∈ lw_g := lw_in (List.mem_of_getElem? (i := 296) (by decide +kernel)) rfl
theorem kX10_76 : CallV RX10 76 yX1_clear iX1_clear 0 := ⟨mw_294, mw_295, mw_296, mw_83, mw_297, by decide +kernel, by decide⟩
theorem fX10_50 : FldOK RX10 50 9 5 := ⟨RX10, TX10, 8, rfl, by decide, inG9, mw_308⟩
theorem fX10_54 : FldOK RX10 54 9 6 := ⟨RX10, TX10, 8, rfl, by decide, inG9, mw_310⟩
theorem fX10_57 : FldOK RX10 57 9 7 := ⟨RX10, TX10, 8, rfl, by decide, inG9, mw_312⟩
theorem mw_1158 : Cond.methodLink RX10 77 yX6_copyFrom ∈ lw_g := lw_in (List.mem_of_getElem? (i := 1158) (by decide +kernel)) rfl
theorem mw_1050 : Cond.code yX6_copyFrom cX6_copyFrom 2 none ∈ lw_g := lw_in (List.mem_of_getElem? (i := 1050) (by decide +kernel)) rfl
theorem mw_1048 : Cond.instanceMethod yX6_copyFrom ∈ lw_g := lw_in (List.mem_of_getElem? (i := 1048) (by decide +kernel)) rfl
theorem mw_1049 : Cond.selects RX6 yX6_copyFrom yX6_copyFrom ∈ lw_g := lw_in (List.mem_of_getElem? (i := 1049) (by decide +kernel)) rfl
theorem kX10_77 : CallV RX10 77 yX6_copyFrom iX6_copyFrom 1 := ⟨mw_1158, mw_1048, mw_1049, mw_78, mw_1050, by decide +kernel, by decide⟩
theorem kX10_81 : Cond.methodLink RX10 81 arraycopyName ∈ lw_g := lw_in (List.mem_of_getElem? (i := 1159) (by decide +kernel)) rfl
theorem mw_1160 : Cond.methodLink RX10 87 yX8_copyFrom ∈ lw_g := lw_in (List.mem_of_getElem? (i := 1160) (by decide +kernel)) rfl
theorem mw_1163 : Cond.code yX8_copyFrom cX8_copyFrom 2 none ∈ lw_g := lw_in (List.mem_of_getElem? (i := 1163) (by decide +kernel)) rfl
theorem mw_1161 : Cond.instanceMethod yX8_copyFrom ∈ lw_g := lw_in (List.mem_of_getElem? (i := 1161) (by decide +kernel)) rfl
theorem mw_1162 : Cond.selects RX8 yX8_copyFrom yX8_copyFrom ∈ lw_g := lw_in (List.mem_of_getElem? (i := 1162) (by decide +kernel)) rfl
theorem kX10_87 : CallV RX10 87 yX8_copyFrom iX8_copyFrom 1 := ⟨mw_1160, mw_1161, mw_1162, mw_80, mw_1163, by decide +kernel, by decide⟩
theorem mw_1164 : Cond.methodLink RX10 90 yX3_copyFrom ∈ lw_g := lw_in (List.mem_of_getElem? (i := 1164) (by decide +kernel)) rfl
theorem mw_1167 : Cond.code yX3_copyFrom cX3_copyFrom 2 none ∈ lw_g := lw_in (List.mem_of_getElem? (i := 1167) (by decide +kernel)) rfl
theorem mw_1165 : Cond.instanceMethod yX3_copyFrom ∈ lw_g := lw_in (List.mem_of_getElem? (i := 1165) (by decide +kernel)) rfl
theorem mw_1166 : Cond.selects RX3 yX3_copyFrom yX3_copyFrom ∈ lw_g := lw_in (List.mem_of_getElem? (i := 1166) (by decide +kernel)) rfl
theorem kX10_90 : CallV RX10 90 yX3_copyFrom iX3_copyFrom 1 := ⟨mw_1164, mw_1165, mw_1166, mw_81, mw_1167, by decide +kernel, by decide⟩
theorem mw_1173 : Cond.methodLink RX10 93 yX1_copyFrom ∈ lw_g := lw_in (List.mem_of_getElem? (i := 1173) (by decide +kernel)) rfl
theorem mw_1176 : Cond.code yX1_copyFrom cX1_copyFrom 2 none ∈ lw_g := lw_in (List.mem_of_getElem? (i := 1176) (by decide +kernel)) rfl
theorem mw_1174 : Cond.instanceMethod yX1_copyFrom ∈ lw_g := lw_in (List.mem_of_getElem? (i := 1174) (by decide +kernel)) rfl
theorem mw_1175 : Cond.selects RX1 yX1_copyFrom yX1_copyFrom ∈ lw_g := lw_in (List.mem_of_getElem? (i := 1175) (by decide +kernel)) rfl
theorem kX10_93 : CallV RX10 93 yX1_copyFrom iX1_copyFrom 1 := ⟨mw_1173, mw_1174, mw_1175, mw_83, mw_1176, by decide +kernel, by decide⟩
theorem mw_501 : Cond.methodLink RX10 96 yX10_enterObject ∈ lw_g := lw_in (List.mem_of_getElem? (i := 501) (by decide +kernel)) rfl
theorem mw_504 : Cond.code yX10_enterObject cX10_enterObject 7 (some .int) ∈ lw_g := lw_in (List.mem_of_getElem? (i := 504) (by decide +kernel)) rfl
theorem mw_503 : Cond.instanceMethod yX10_enterObject ∈ lw_g := lw_in (List.mem_of_getElem? (i := 503) (by decide +kernel)) rfl
theorem mw_1 : Cond.selects RX10 yX10_enterObject yX10_enterObject ∈ lw_g := lw_in (List.mem_of_getElem? (i := 1) (by decide +kernel)) rfl
theorem kX10_96 : CallV RX10 96 yX10_enterObject iX10_enterObject 2 := ⟨mw_501, mw_503, mw_1, mw_77, mw_504, by decide +kernel, by decide⟩
theorem mw_602 : Cond.methodLink RX10 100 yX10_exitObject ∈ lw_g := lw_in (List.mem_of_getElem? (i := 602) (by decide +kernel)) rfl
theorem mw_605 : Cond.code yX10_exitObject cX10_exitObject 5 (some .int) ∈ lw_g := lw_in (List.mem_of_getElem? (i := 605) (by decide +kernel)) rfl
theorem mw_604 : Cond.instanceMethod yX10_exitObject ∈ lw_g := lw_in (List.mem_of_getElem? (i := 604) (by decide +kernel)) rfl
theorem mw_16 : Cond.selects RX10 yX10_exitObject yX10_exitObject ∈ lw_g := lw_in (List.mem_of_getElem? (i := 16) (by decide +kernel)) rfl
theorem kX10_100 : CallV RX10 100 yX10_exitObject iX10_exitObject 2 := ⟨mw_602, mw_604, mw_16, mw_77, mw_605, by decide +kernel, by decide⟩
theorem mw_631 : Cond.methodLink RX10 103 yX10_awaitAt ∈ lw_g := lw_in (List.mem_of_getElem? (i := 631) (by decide +kernel)) rfl
theorem mw_634 : Cond.code yX10_awaitAt cX10_awaitAt 8 (some .int) ∈ lw_g := lw_in (List.mem_of_getElem? (i := 634) (by decide +kernel)) rfl
theorem mw_633 : Cond.instanceMethod yX10_awaitAt ∈ lw_g := lw_in (List.mem_of_getElem? (i := 633) (by decide +kernel)) rfl
theorem mw_20 : Cond.selects RX10 yX10_awaitAt yX10_awaitAt ∈ lw_g := lw_in (List.mem_of_getElem? (i := 20) (by decide +kernel)) rfl
theorem kX10_103 : CallV RX10 103 yX10_awaitAt iX10_awaitAt 3 := ⟨mw_631, mw_633, mw_20, mw_77, mw_634, by decide +kernel, by decide⟩
theorem mw_639 : Cond.methodLink RX10 107 yX10_notifyFirst ∈ lw_g := lw_in (List.mem_of_getElem? (i := 639) (by decide +kernel)) rfl
theorem mw_642 : Cond.code yX10_notifyFirst cX10_notifyFirst 6 (some .int) ∈ lw_g := lw_in (List.mem_of_getElem? (i := 642) (by decide +kernel)) rfl
theorem mw_641 : Cond.instanceMethod yX10_notifyFirst ∈ lw_g := lw_in (List.mem_of_getElem? (i := 641) (by decide +kernel)) rfl
theorem mw_22 : Cond.selects RX10 yX10_notifyFirst yX10_notifyFirst ∈ lw_g := lw_in (List.mem_of_getElem? (i := 22) (by decide +kernel)) rfl
theorem kX10_107 : CallV RX10 107 yX10_notifyFirst iX10_notifyFirst 2 := ⟨mw_639, mw_641, mw_22, mw_77, mw_642, by decide +kernel, by decide⟩
theorem mw_651 : Cond.methodLink RX10 110 yX10_notifyEach ∈ lw_g := lw_in (List.mem_of_getElem? (i := 651) (by decide +kernel)) rfl
theorem mw_654 : Cond.code yX10_notifyEach cX10_notifyEach 8 (some .int) ∈ lw_g := lw_in (List.mem_of_getElem? (i := 654) (by decide +kernel)) rfl
theorem mw_653 : Cond.instanceMethod yX10_notifyEach ∈ lw_g := lw_in (List.mem_of_getElem? (i := 653) (by decide +kernel)) rfl
theorem mw_24 : Cond.selects RX10 yX10_notifyEach yX10_notifyEach ∈ lw_g := lw_in (List.mem_of_getElem? (i := 24) (by decide +kernel)) rfl
theorem kX10_110 : CallV RX10 110 yX10_notifyEach iX10_notifyEach 2 := ⟨mw_651, mw_653, mw_24, mw_77, mw_654, by decide +kernel, by decide⟩
theorem mw_655 : Cond.methodLink RX10 113 yX10_interruptThread ∈ lw_g := lw_in (List.mem_of_getElem? (i := 655) (by decide +kernel)) rfl
theorem mw_658 : Cond.code yX10_interruptThread cX10_interruptThread 4 (some .int) ∈ lw_g := lw_in (List.mem_of_getElem? (i := 658) (by decide +kernel)) rfl
theorem mw_657 : Cond.instanceMethod yX10_interruptThread ∈ lw_g := lw_in (List.mem_of_getElem? (i := 657) (by decide +kernel)) rfl
theorem mw_25 : Cond.selects RX10 yX10_interruptThread yX10_interruptThread ∈ lw_g := lw_in (List.mem_of_getElem? (i := 25) (by decide +kernel)) rfl
theorem kX10_113 : CallV RX10 113 yX10_interruptThread iX10_interruptThread 1 := ⟨mw_655, mw_657, mw_25, mw_77, mw_658, by decide +kernel, by decide⟩
theorem mw_659 : Cond.methodLink RX10 116 yX10_endThread ∈ lw_g := lw_in (List.mem_of_getElem? (i := 659) (by decide +kernel)) rfl
theorem mw_662 : Cond.code yX10_endThread cX10_endThread 8 (some .int) ∈ lw_g := lw_in (List.mem_of_getElem? (i := 662) (by decide +kernel)) rfl
theorem mw_661 : Cond.instanceMethod yX10_endThread ∈ lw_g := lw_in (List.mem_of_getElem? (i := 661) (by decide +kernel)) rfl
theorem mw_26 : Cond.selects RX10 yX10_endThread yX10_endThread ∈ lw_g := lw_in (List.mem_of_getElem? (i := 26) (by decide +kernel)) rfl
theorem kX10_116 : CallV RX10 116 yX10_endThread iX10_endThread 1 := ⟨mw_659, mw_661, mw_26, mw_77, mw_662, by decide +kernel, by decide⟩
theorem mw_663 : Cond.methodLink RX10 119 yX10_startThread ∈ lw_g := lw_in (List.mem_of_getElem? (i := 663) (by decide +kernel)) rfl
theorem mw_666 : Cond.code yX10_startThread cX10_startThread 4 (some .int) ∈ lw_g := lw_in (List.mem_of_getElem? (i := 666) (by decide +kernel)) rfl
theorem mw_665 : Cond.instanceMethod yX10_startThread ∈ lw_g := lw_in (List.mem_of_getElem? (i := 665) (by decide +kernel)) rfl
theorem mw_27 : Cond.selects RX10 yX10_startThread yX10_startThread ∈ lw_g := lw_in (List.mem_of_getElem? (i := 27) (by decide +kernel)) rfl
theorem kX10_119 : CallV RX10 119 yX10_startThread iX10_startThread 1 := ⟨mw_663, mw_665, mw_27, mw_77, mw_666, by decide +kernel, by decide⟩
theorem mw_667 : Cond.methodLink RX10 122 yX10_hashOf ∈ lw_g := lw_in (List.mem_of_getElem? (i := 667) (by decide +kernel)) rfl
theorem mw_670 : Cond.code yX10_hashOf cX10_hashOf 3 (some .int) ∈ lw_g := lw_in (List.mem_of_getElem? (i := 670) (by decide +kernel)) rfl
theorem mw_669 : Cond.instanceMethod yX10_hashOf ∈ lw_g := lw_in (List.mem_of_getElem? (i := 669) (by decide +kernel)) rfl
theorem mw_28 : Cond.selects RX10 yX10_hashOf yX10_hashOf ∈ lw_g := lw_in (List.mem_of_getElem? (i := 28) (by decide +kernel)) rfl
theorem kX10_122 : CallV RX10 122 yX10_hashOf iX10_hashOf 1 := ⟨mw_667, mw_669, mw_28, mw_77, mw_670, by decide +kernel, by decide⟩
theorem mw_671 : Cond.methodLink RX10 125 yX10_letPass ∈ lw_g := lw_in (List.mem_of_getElem? (i := 671) (by decide +kernel)) rfl
theorem mw_674 : Cond.code yX10_letPass cX10_letPass 4 (some .int) ∈ lw_g := lw_in (List.mem_of_getElem? (i := 674) (by decide +kernel)) rfl
theorem mw_673 : Cond.instanceMethod yX10_letPass ∈ lw_g := lw_in (List.mem_of_getElem? (i := 673) (by decide +kernel)) rfl
theorem mw_29 : Cond.selects RX10 yX10_letPass yX10_letPass ∈ lw_g := lw_in (List.mem_of_getElem? (i := 29) (by decide +kernel)) rfl
theorem kX10_125 : CallV RX10 125 yX10_letPass iX10_letPass 1 := ⟨mw_671, mw_673, mw_29, mw_77, mw_674, by decide +kernel, by decide⟩
theorem mw_509 : Cond.methodLink RX10 128 yX10_hasThread ∈ lw_g := lw_in (List.mem_of_getElem? (i := 509) (by decide +kernel)) rfl
theorem mw_512 : Cond.code yX10_hasThread cX10_hasThread 2 (some .boolean) ∈ lw_g := lw_in (List.mem_of_getElem? (i := 512) (by decide +kernel)) rfl
theorem mw_510 : Cond.instanceMethod yX10_hasThread ∈ lw_g := lw_in (List.mem_of_getElem? (i := 510) (by decide +kernel)) rfl
theorem mw_511 : Cond.selects RX10 yX10_hasThread yX10_hasThread ∈ lw_g := lw_in (List.mem_of_getElem? (i := 511) (by decide +kernel)) rfl
theorem kX10_128 : CallV RX10 128 yX10_hasThread iX10_hasThread 1 := ⟨mw_509, mw_510, mw_511, mw_77, mw_512, by decide +kernel, by decide⟩
theorem mw_143 : Cond.fieldLink RX10 135 "LockSimulator$Strand" "state" "I" ∈ lw_g := lw_in (List.mem_of_getElem? (i := 143) (by decide +kernel)) rfl
theorem fX10_135 : FldOK RX10 135 8 0 := ⟨RX8, TX8, 6, rfl, by decide, inG8, mw_143⟩
theorem mw_505 : Cond.methodLink RX10 138 yX10_runnerError ∈ lw_g := lw_in (List.mem_of_getElem? (i := 505) (by decide +kernel)) rfl
theorem mw_508 : Cond.code yX10_runnerError cX10_runnerError 3 (some .int) ∈ lw_g := lw_in (List.mem_of_getElem? (i := 508) (by decide +kernel)) rfl
theorem mw_507 : Cond.instanceMethod yX10_runnerError ∈ lw_g := lw_in (List.mem_of_getElem? (i := 507) (by decide +kernel)) rfl
theorem mw_2 : Cond.selects RX10 yX10_runnerError yX10_runnerError ∈ lw_g := lw_in (List.mem_of_getElem? (i := 2) (by decide +kernel)) rfl
theorem kX10_138 : CallV RX10 138 yX10_runnerError iX10_runnerError 2 := ⟨mw_505, mw_507, mw_2, mw_77, mw_508, by decide +kernel, by decide⟩
theorem mw_569 : Cond.methodLink RX10 141 yX3_isHeldBy ∈ lw_g := lw_in (List.mem_of_getElem? (i := 569) (by decide +kernel)) rfl
theorem mw_572 : Cond.code yX3_isHeldBy cX3_isHeldBy 2 (some .boolean) ∈ lw_g := lw_in (List.mem_of_getElem? (i := 572) (by decide +kernel)) rfl
theorem mw_570 : Cond.instanceMethod yX3_isHeldBy ∈ lw_g := lw_in (List.mem_of_getElem? (i := 570) (by decide +kernel)) rfl
theorem mw_571 : Cond.selects RX3 yX3_isHeldBy yX3_isHeldBy ∈ lw_g := lw_in (List.mem_of_getElem? (i := 571) (by decide +kernel)) rfl
theorem kX10_141 : CallV RX10 141 yX3_isHeldBy iX3_isHeldBy 1 := ⟨mw_569, mw_570, mw_571, mw_81, mw_572, by decide +kernel, by decide⟩
theorem mw_516 : Cond.methodLink RX10 144 yX10_entryNeedsMonitor ∈ lw_g := lw_in (List.mem_of_getElem? (i := 516) (by decide +kernel)) rfl
theorem mw_519 : Cond.code yX10_entryNeedsMonitor cX10_entryNeedsMonitor 3 (some .boolean) ∈ lw_g := lw_in (List.mem_of_getElem? (i := 519) (by decide +kernel)) rfl
theorem mw_518 : Cond.instanceMethod yX10_entryNeedsMonitor ∈ lw_g := lw_in (List.mem_of_getElem? (i := 518) (by decide +kernel)) rfl
theorem mw_3 : Cond.selects RX10 yX10_entryNeedsMonitor yX10_entryNeedsMonitor ∈ lw_g := lw_in (List.mem_of_getElem? (i := 3) (by decide +kernel)) rfl
theorem kX10_144 : CallV RX10 144 yX10_entryNeedsMonitor iX10_entryNeedsMonitor 2 := ⟨mw_516, mw_518, mw_3, mw_77, mw_519, by decide +kernel, by decide⟩
theorem mw_524 : Cond.methodLink RX10 148 yX10_canInflate ∈ lw_g := lw_in (List.mem_of_getElem? (i := 524) (by decide +kernel)) rfl
theorem mw_527 : Cond.code yX10_canInflate cX10_canInflate 1 (some .boolean) ∈ lw_g := lw_in (List.mem_of_getElem? (i := 527) (by decide +kernel)) rfl
theorem mw_526 : Cond.instanceMethod yX10_canInflate ∈ lw_g := lw_in (List.mem_of_getElem? (i := 526) (by decide +kernel)) rfl
theorem mw_4 : Cond.selects RX10 yX10_canInflate yX10_canInflate ∈ lw_g := lw_in (List.mem_of_getElem? (i := 4) (by decide +kernel)) rfl
theorem kX10_148 : CallV RX10 148 yX10_canInflate iX10_canInflate 0 := ⟨mw_524, mw_526, mw_4, mw_77, mw_527, by decide +kernel, by decide⟩
theorem mw_195 : Cond.fieldLink RX10 152 "LockSimulator$Lock" "state" "I" ∈ lw_g := lw_in (List.mem_of_getElem? (i := 195) (by decide +kernel)) rfl
theorem fX10_152 : FldOK RX10 152 4 2 := ⟨RX3, TX3, 12, rfl, by decide, inG4, mw_195⟩
theorem mw_204 : Cond.fieldLink RX10 153 "LockSimulator$Lock" "biasThread" "I" ∈ lw_g := lw_in (List.mem_of_getElem? (i := 204) (by decide +kernel)) rfl
theorem fX10_153 : FldOK RX10 153 4 5 := ⟨RX3, TX3, 12, rfl, by decide, inG4, mw_204⟩
theorem mw_541 : Cond.methodLink RX10 156 yX10_biasIsValid ∈ lw_g := lw_in (List.mem_of_getElem? (i := 541) (by decide +kernel)) rfl
theorem mw_544 : Cond.code yX10_biasIsValid cX10_biasIsValid 2 (some .boolean) ∈ lw_g := lw_in (List.mem_of_getElem? (i := 544) (by decide +kernel)) rfl
theorem mw_542 : Cond.instanceMethod yX10_biasIsValid ∈ lw_g := lw_in (List.mem_of_getElem? (i := 542) (by decide +kernel)) rfl
theorem mw_543 : Cond.selects RX10 yX10_biasIsValid yX10_biasIsValid ∈ lw_g := lw_in (List.mem_of_getElem? (i := 543) (by decide +kernel)) rfl
theorem kX10_156 : CallV RX10 156 yX10_biasIsValid iX10_biasIsValid 1 := ⟨mw_541, mw_542, mw_543, mw_77, mw_544, by decide +kernel, by decide⟩
theorem mw_545 : Cond.methodLink RX10 160 yX10_revokeBias ∈ lw_g := lw_in (List.mem_of_getElem? (i := 545) (by decide +kernel)) rfl
theorem mw_548 : Cond.code yX10_revokeBias cX10_revokeBias 3 none ∈ lw_g := lw_in (List.mem_of_getElem? (i := 548) (by decide +kernel)) rfl
theorem mw_547 : Cond.instanceMethod yX10_revokeBias ∈ lw_g := lw_in (List.mem_of_getElem? (i := 547) (by decide +kernel)) rfl
theorem mw_7 : Cond.selects RX10 yX10_revokeBias yX10_revokeBias ∈ lw_g := lw_in (List.mem_of_getElem? (i := 7) (by decide +kernel)) rfl
theorem kX10_160 : CallV RX10 160 yX10_revokeBias iX10_revokeBias 1 := ⟨mw_545, mw_547, mw_7, mw_77, mw_548, by decide +kernel, by decide⟩
theorem mw_561 : Cond.methodLink RX10 163 yX10_inflate ∈ lw_g := lw_in (List.mem_of_getElem? (i := 561) (by decide +kernel)) rfl
theorem mw_564 : Cond.code yX10_inflate cX10_inflate 3 none ∈ lw_g := lw_in (List.mem_of_getElem? (i := 564) (by decide +kernel)) rfl
theorem mw_563 : Cond.instanceMethod yX10_inflate ∈ lw_g := lw_in (List.mem_of_getElem? (i := 563) (by decide +kernel)) rfl
theorem mw_10 : Cond.selects RX10 yX10_inflate yX10_inflate ∈ lw_g := lw_in (List.mem_of_getElem? (i := 10) (by decide +kernel)) rfl
theorem kX10_163 : CallV RX10 163 yX10_inflate iX10_inflate 1 := ⟨mw_561, mw_563, mw_10, mw_77, mw_564, by decide +kernel, by decide⟩
theorem mw_201 : Cond.fieldLink RX10 166 "LockSimulator$Lock" "entries" "I" ∈ lw_g := lw_in (List.mem_of_getElem? (i := 201) (by decide +kernel)) rfl
theorem fX10_166 : FldOK RX10 166 4 4 := ⟨RX3, TX3, 12, rfl, by decide, inG4, mw_201⟩
theorem pX10_166 : PutOK RX10 166 4 4 .int false := ⟨RX3, TX3, 12, tyX3, rfl, by decide, inG4, mw_201, tyX3_ok, nmX3, rfl, by decide +kernel, fun h => by cases h⟩
theorem mw_520 : Cond.methodLink RX10 169 yX3_isHeld ∈ lw_g := lw_in (List.mem_of_getElem? (i := 520) (by decide +kernel)) rfl
theorem kX10_169 : CallV RX10 169 yX3_isHeld iX3_isHeld 0 := ⟨mw_520, mw_521, mw_522, mw_81, mw_523, by decide +kernel, by decide⟩
theorem mw_574 : Cond.methodLink RX10 172 yX10_block ∈ lw_g := lw_in (List.mem_of_getElem? (i := 574) (by decide +kernel)) rfl
theorem mw_577 : Cond.code yX10_block cX10_block 4 none ∈ lw_g := lw_in (List.mem_of_getElem? (i := 577) (by decide +kernel)) rfl
theorem mw_576 : Cond.instanceMethod yX10_block ∈ lw_g := lw_in (List.mem_of_getElem? (i := 576) (by decide +kernel)) rfl
theorem mw_12 : Cond.selects RX10 yX10_block yX10_block ∈ lw_g := lw_in (List.mem_of_getElem? (i := 12) (by decide +kernel)) rfl
theorem kX10_172 : CallV RX10 172 yX10_block iX10_block 2 := ⟨mw_574, mw_576, mw_12, mw_77, mw_577, by decide +kernel, by decide⟩
theorem mw_582 : Cond.methodLink RX10 176 yX10_recover ∈ lw_g := lw_in (List.mem_of_getElem? (i := 582) (by decide +kernel)) rfl
theorem mw_585 : Cond.code yX10_recover cX10_recover 2 (some .int) ∈ lw_g := lw_in (List.mem_of_getElem? (i := 585) (by decide +kernel)) rfl
theorem mw_584 : Cond.instanceMethod yX10_recover ∈ lw_g := lw_in (List.mem_of_getElem? (i := 584) (by decide +kernel)) rfl
theorem mw_13 : Cond.selects RX10 yX10_recover yX10_recover ∈ lw_g := lw_in (List.mem_of_getElem? (i := 13) (by decide +kernel)) rfl
theorem kX10_176 : CallV RX10 176 yX10_recover iX10_recover 1 := ⟨mw_582, mw_584, mw_13, mw_77, mw_585, by decide +kernel, by decide⟩
theorem mw_586 : Cond.methodLink RX10 180 yX10_take ∈ lw_g := lw_in (List.mem_of_getElem? (i := 586) (by decide +kernel)) rfl
theorem mw_589 : Cond.code yX10_take cX10_take 3 (some .int) ∈ lw_g := lw_in (List.mem_of_getElem? (i := 589) (by decide +kernel)) rfl
theorem mw_588 : Cond.instanceMethod yX10_take ∈ lw_g := lw_in (List.mem_of_getElem? (i := 588) (by decide +kernel)) rfl
theorem mw_14 : Cond.selects RX10 yX10_take yX10_take ∈ lw_g := lw_in (List.mem_of_getElem? (i := 14) (by decide +kernel)) rfl
theorem kX10_180 : CallV RX10 180 yX10_take iX10_take 2 := ⟨mw_586, mw_588, mw_14, mw_77, mw_589, by decide +kernel, by decide⟩
theorem mw_198 : Cond.fieldLink RX10 184 "LockSimulator$Lock" "holder" "I" ∈ lw_g := lw_in (List.mem_of_getElem? (i := 198) (by decide +kernel)) rfl
theorem fX10_184 : FldOK RX10 184 4 3 := ⟨RX3, TX3, 12, rfl, by decide, inG4, mw_198⟩
theorem mw_590 : Cond.methodLink RX10 187 yX10_takeBiased ∈ lw_g := lw_in (List.mem_of_getElem? (i := 590) (by decide +kernel)) rfl
theorem mw_593 : Cond.code yX10_takeBiased cX10_takeBiased 3 none ∈ lw_g := lw_in (List.mem_of_getElem? (i := 593) (by decide +kernel)) rfl
theorem mw_592 : Cond.instanceMethod yX10_takeBiased ∈ lw_g := lw_in (List.mem_of_getElem? (i := 592) (by decide +kernel)) rfl
theorem mw_15 : Cond.selects RX10 yX10_takeBiased yX10_takeBiased ∈ lw_g := lw_in (List.mem_of_getElem? (i := 15) (by decide +kernel)) rfl
theorem kX10_187 : CallV RX10 187 yX10_takeBiased iX10_takeBiased 2 := ⟨mw_590, mw_592, mw_15, mw_77, mw_593, by decide +kernel, by decide⟩
theorem pX10_152 : PutOK RX10 152 4 2 .int false := ⟨RX3, TX3, 12, tyX3, rfl, by decide, inG4, mw_195, tyX3_ok, nmX3, rfl, by decide +kernel, fun h => by cases h⟩
theorem mw_594 : Cond.methodLink RX10 190 yX3_give ∈ lw_g := lw_in (List.mem_of_getElem? (i := 594) (by decide +kernel)) rfl
theorem mw_597 : Cond.code yX3_give cX3_give 3 none ∈ lw_g := lw_in (List.mem_of_getElem? (i := 597) (by decide +kernel)) rfl
theorem mw_595 : Cond.instanceMethod yX3_give ∈ lw_g := lw_in (List.mem_of_getElem? (i := 595) (by decide +kernel)) rfl
theorem mw_596 : Cond.selects RX3 yX3_give yX3_give ∈ lw_g := lw_in (List.mem_of_getElem? (i := 596) (by decide +kernel)) rfl
theorem kX10_190 : CallV RX10 190 yX3_give iX3_give 2 := ⟨mw_594, mw_595, mw_596, mw_81, mw_597, by decide +kernel, by decide⟩
theorem mw_216 : Cond.fieldLink RX10 194 "LockSimulator$Lock" "queue" "LLockSimulator$Line;" ∈ lw_g := lw_in (List.mem_of_getElem? (i := 216) (by decide +kernel)) rfl
theorem fX10_194 : FldOK RX10 194 4 10 := ⟨RX3, TX3, 12, rfl, by decide, inG4, mw_216⟩
theorem mw_598 : Cond.methodLink RX10 198 yX2_isEmpty ∈ lw_g := lw_in (List.mem_of_getElem? (i := 598) (by decide +kernel)) rfl
theorem kX10_198 : CallV RX10 198 yX2_isEmpty iX2_isEmpty 0 := ⟨mw_598, mw_599, mw_600, mw_82, mw_601, by decide +kernel, by decide⟩
theorem pX10_153 : PutOK RX10 153 4 5 .int false := ⟨RX3, TX3, 12, tyX3, rfl, by decide, inG4, mw_204, tyX3_ok, nmX3, rfl, by decide +kernel, fun h => by cases h⟩
theorem mw_193 : Cond.fieldLink RX10 203 "LockSimulator$Lock" "kind" "I" ∈ lw_g := lw_in (List.mem_of_getElem? (i := 193) (by decide +kernel)) rfl
theorem fX10_203 : FldOK RX10 203 4 1 := ⟨RX3, TX3, 12, rfl, by decide, inG4, mw_193⟩
theorem mw_252 : Cond.fieldLink RX10 206 "LockSimulator$Kind" "epoch" "I" ∈ lw_g := lw_in (List.mem_of_getElem? (i := 252) (by decide +kernel)) rfl
theorem fX10_206 : FldOK RX10 206 2 0 := ⟨RX1, TX1, 3, rfl, by decide, inG2, mw_252⟩
theorem mw_207 : Cond.fieldLink RX10 209 "LockSimulator$Lock" "epoch" "I" ∈ lw_g := lw_in (List.mem_of_getElem? (i := 207) (by decide +kernel)) rfl
theorem pX10_209 : PutOK RX10 209 4 6 .int false := ⟨RX3, TX3, 12, tyX3, rfl, by decide, inG4, mw_207, tyX3_ok, nmX3, rfl, by decide +kernel, fun h => by cases h⟩
theorem mw_578 : Cond.methodLink RX10 210 yX2_append ∈ lw_g := lw_in (List.mem_of_getElem? (i := 578) (by decide +kernel)) rfl
theorem mw_581 : Cond.code yX2_append cX2_append 2 none ∈ lw_g := lw_in (List.mem_of_getElem? (i := 581) (by decide +kernel)) rfl
theorem mw_579 : Cond.instanceMethod yX2_append ∈ lw_g := lw_in (List.mem_of_getElem? (i := 579) (by decide +kernel)) rfl
theorem mw_580 : Cond.selects RX2 yX2_append yX2_append ∈ lw_g := lw_in (List.mem_of_getElem? (i := 580) (by decide +kernel)) rfl
theorem kX10_210 : CallV RX10 210 yX2_append iX2_append 1 := ⟨mw_578, mw_579, mw_580, mw_82, mw_581, by decide +kernel, by decide⟩
theorem pX10_135 : PutOK RX10 135 8 0 .int false := ⟨RX8, TX8, 6, tyX8, rfl, by decide, inG8, mw_143, tyX8_ok, nmX8, rfl, by decide +kernel, fun h => by cases h⟩
theorem mw_191 : Cond.fieldLink RX10 213 "LockSimulator$Lock" "number" "I" ∈ lw_g := lw_in (List.mem_of_getElem? (i := 191) (by decide +kernel)) rfl
theorem fX10_213 : FldOK RX10 213 4 0 := ⟨RX3, TX3, 12, rfl, by decide, inG4, mw_191⟩
theorem mw_149 : Cond.fieldLink RX10 216 "LockSimulator$Strand" "place" "I" ∈ lw_g := lw_in (List.mem_of_getElem? (i := 149) (by decide +kernel)) rfl
theorem pX10_216 : PutOK RX10 216 8 2 .int false := ⟨RX8, TX8, 6, tyX8, rfl, by decide, inG8, mw_149, tyX8_ok, nmX8, rfl, by decide +kernel, fun h => by cases h⟩
theorem mw_154 : Cond.fieldLink RX10 219 "LockSimulator$Strand" "dueEntries" "I" ∈ lw_g := lw_in (List.mem_of_getElem? (i := 154) (by decide +kernel)) rfl
theorem pX10_219 : PutOK RX10 219 8 4 .int false := ⟨RX8, TX8, 6, tyX8, rfl, by decide, inG8, mw_154, tyX8_ok, nmX8, rfl, by decide +kernel, fun h => by cases h⟩
theorem mw_209 : Cond.fieldLink RX10 222 "LockSimulator$Lock" "abandoned" "Z" ∈ lw_g := lw_in (List.mem_of_getElem? (i := 209) (by decide +kernel)) rfl
theorem fX10_222 : FldOK RX10 222 4 7 := ⟨RX3, TX3, 12, rfl, by decide, inG4, mw_209⟩
theorem pX10_222 : PutOK RX10 222 4 7 .boolean false := ⟨RX3, TX3, 12, tyX3, rfl, by decide, inG4, mw_209, tyX3_ok, nmX3, rfl, by decide +kernel, fun h => by cases h⟩
theorem fX10_209 : FldOK RX10 209 4 6 := ⟨RX3, TX3, 12, rfl, by decide, inG4, mw_207⟩
theorem mw_255 : Cond.fieldLink RX10 226 "LockSimulator$Kind" "revocations" "I" ∈ lw_g := lw_in (List.mem_of_getElem? (i := 255) (by decide +kernel)) rfl
theorem fX10_226 : FldOK RX10 226 2 1 := ⟨RX1, TX1, 3, rfl, by decide, inG2, mw_255⟩
theorem pX10_226 : PutOK RX10 226 2 1 .int false := ⟨RX1, TX1, 3, tyX1, rfl, by decide, inG2, mw_255, tyX1_ok, nmX1, rfl, by decide +kernel, fun h => by cases h⟩
theorem mw_549 : Cond.methodLink RX10 229 yX10_endBiasing ∈ lw_g := lw_in (List.mem_of_getElem? (i := 549) (by decide +kernel)) rfl
theorem mw_552 : Cond.code yX10_endBiasing cX10_endBiasing 4 none ∈ lw_g := lw_in (List.mem_of_getElem? (i := 552) (by decide +kernel)) rfl
theorem mw_551 : Cond.instanceMethod yX10_endBiasing ∈ lw_g := lw_in (List.mem_of_getElem? (i := 551) (by decide +kernel)) rfl
theorem mw_8 : Cond.selects RX10 yX10_endBiasing yX10_endBiasing ∈ lw_g := lw_in (List.mem_of_getElem? (i := 8) (by decide +kernel)) rfl
theorem kX10_229 : CallV RX10 229 yX10_endBiasing iX10_endBiasing 1 := ⟨mw_549, mw_551, mw_8, mw_77, mw_552, by decide +kernel, by decide⟩
theorem mw_557 : Cond.methodLink RX10 232 yX10_beginEpoch ∈ lw_g := lw_in (List.mem_of_getElem? (i := 557) (by decide +kernel)) rfl
theorem mw_560 : Cond.code yX10_beginEpoch cX10_beginEpoch 4 none ∈ lw_g := lw_in (List.mem_of_getElem? (i := 560) (by decide +kernel)) rfl
theorem mw_559 : Cond.instanceMethod yX10_beginEpoch ∈ lw_g := lw_in (List.mem_of_getElem? (i := 559) (by decide +kernel)) rfl
theorem mw_9 : Cond.selects RX10 yX10_beginEpoch yX10_beginEpoch ∈ lw_g := lw_in (List.mem_of_getElem? (i := 9) (by decide +kernel)) rfl
theorem kX10_232 : CallV RX10 232 yX10_beginEpoch iX10_beginEpoch 1 := ⟨mw_557, mw_559, mw_9, mw_77, mw_560, by decide +kernel, by decide⟩
theorem mw_553 : Cond.methodLink RX10 235 yX3_loseBias ∈ lw_g := lw_in (List.mem_of_getElem? (i := 553) (by decide +kernel)) rfl
theorem mw_556 : Cond.code yX3_loseBias cX3_loseBias 1 none ∈ lw_g := lw_in (List.mem_of_getElem? (i := 556) (by decide +kernel)) rfl
theorem mw_554 : Cond.instanceMethod yX3_loseBias ∈ lw_g := lw_in (List.mem_of_getElem? (i := 554) (by decide +kernel)) rfl
theorem mw_555 : Cond.selects RX3 yX3_loseBias yX3_loseBias ∈ lw_g := lw_in (List.mem_of_getElem? (i := 555) (by decide +kernel)) rfl
theorem kX10_235 : CallV RX10 235 yX3_loseBias iX3_loseBias 0 := ⟨mw_553, mw_554, mw_555, mw_81, mw_556, by decide +kernel, by decide⟩
theorem mw_258 : Cond.fieldLink RX10 238 "LockSimulator$Kind" "biasable" "Z" ∈ lw_g := lw_in (List.mem_of_getElem? (i := 258) (by decide +kernel)) rfl
theorem pX10_238 : PutOK RX10 238 2 2 .boolean false := ⟨RX1, TX1, 3, tyX1, rfl, by decide, inG2, mw_258, tyX1_ok, nmX1, rfl, by decide +kernel, fun h => by cases h⟩
theorem pX10_206 : PutOK RX10 206 2 0 .int false := ⟨RX1, TX1, 3, tyX1, rfl, by decide, inG2, mw_252, tyX1_ok, nmX1, rfl, by decide +kernel, fun h => by cases h⟩
theorem mw_532 : Cond.methodLink RX10 241 yX10_monitorsInUse ∈ lw_g := lw_in (List.mem_of_getElem? (i := 532) (by decide +kernel)) rfl
theorem mw_477 : Cond.code yX10_monitorsInUse cX10_monitorsInUse 6 (some .int) ∈ lw_g := lw_in (List.mem_of_getElem? (i := 477) (by decide +kernel)) rfl
theorem mw_475 : Cond.instanceMethod yX10_monitorsInUse ∈ lw_g := lw_in (List.mem_of_getElem? (i := 475) (by decide +kernel)) rfl
theorem mw_476 : Cond.selects RX10 yX10_monitorsInUse yX10_monitorsInUse ∈ lw_g := lw_in (List.mem_of_getElem? (i := 476) (by decide +kernel)) rfl
theorem kX10_241 : CallV RX10 241 yX10_monitorsInUse iX10_monitorsInUse 0 := ⟨mw_532, mw_475, mw_476, mw_77, mw_477, by decide +kernel, by decide⟩
theorem mw_528 : Cond.methodLink RX10 245 yX10_monitorIsFree ∈ lw_g := lw_in (List.mem_of_getElem? (i := 528) (by decide +kernel)) rfl
theorem mw_531 : Cond.code yX10_monitorIsFree cX10_monitorIsFree 1 (some .boolean) ∈ lw_g := lw_in (List.mem_of_getElem? (i := 531) (by decide +kernel)) rfl
theorem mw_530 : Cond.instanceMethod yX10_monitorIsFree ∈ lw_g := lw_in (List.mem_of_getElem? (i := 530) (by decide +kernel)) rfl
theorem mw_5 : Cond.selects RX10 yX10_monitorIsFree yX10_monitorIsFree ∈ lw_g := lw_in (List.mem_of_getElem? (i := 5) (by decide +kernel)) rfl
theorem kX10_245 : CallV RX10 245 yX10_monitorIsFree iX10_monitorIsFree 0 := ⟨mw_528, mw_530, mw_5, mw_77, mw_531, by decide +kernel, by decide⟩
theorem mw_533 : Cond.methodLink RX10 248 yX10_longestIdle ∈ lw_g := lw_in (List.mem_of_getElem? (i := 533) (by decide +kernel)) rfl
theorem mw_536 : Cond.code yX10_longestIdle cX10_longestIdle 6 (some (.object "LockSimulator$Lock")) ∈ lw_g := lw_in (List.mem_of_getElem? (i := 536) (by decide +kernel)) rfl
theorem mw_535 : Cond.instanceMethod yX10_longestIdle ∈ lw_g := lw_in (List.mem_of_getElem? (i := 535) (by decide +kernel)) rfl
theorem mw_6 : Cond.selects RX10 yX10_longestIdle yX10_longestIdle ∈ lw_g := lw_in (List.mem_of_getElem? (i := 6) (by decide +kernel)) rfl
theorem kX10_248 : CallV RX10 248 yX10_longestIdle iX10_longestIdle 0 := ⟨mw_533, mw_535, mw_6, mw_77, mw_536, by decide +kernel, by decide⟩
theorem mw_537 : Cond.methodLink RX10 252 yX3_isIdle ∈ lw_g := lw_in (List.mem_of_getElem? (i := 537) (by decide +kernel)) rfl
theorem mw_540 : Cond.code yX3_isIdle cX3_isIdle 1 (some .boolean) ∈ lw_g := lw_in (List.mem_of_getElem? (i := 540) (by decide +kernel)) rfl
theorem mw_538 : Cond.instanceMethod yX3_isIdle ∈ lw_g := lw_in (List.mem_of_getElem? (i := 538) (by decide +kernel)) rfl
theorem mw_539 : Cond.selects RX3 yX3_isIdle yX3_isIdle ∈ lw_g := lw_in (List.mem_of_getElem? (i := 539) (by decide +kernel)) rfl
theorem kX10_252 : CallV RX10 252 yX3_isIdle iX3_isIdle 0 := ⟨mw_537, mw_538, mw_539, mw_81, mw_540, by decide +kernel, by decide⟩
theorem mw_214 : Cond.fieldLink RX10 255 "LockSimulator$Lock" "idleSince" "I" ∈ lw_g := lw_in (List.mem_of_getElem? (i := 214) (by decide +kernel)) rfl
theorem fX10_255 : FldOK RX10 255 4 9 := ⟨RX3, TX3, 12, rfl, by decide, inG4, mw_214⟩
theorem mw_565 : Cond.methodLink RX10 258 yX10_deflate ∈ lw_g := lw_in (List.mem_of_getElem? (i := 565) (by decide +kernel)) rfl
theorem mw_568 : Cond.code yX10_deflate cX10_deflate 2 none ∈ lw_g := lw_in (List.mem_of_getElem? (i := 568) (by decide +kernel)) rfl
theorem mw_567 : Cond.instanceMethod yX10_deflate ∈ lw_g := lw_in (List.mem_of_getElem? (i := 567) (by decide +kernel)) rfl
theorem mw_11 : Cond.selects RX10 yX10_deflate yX10_deflate ∈ lw_g := lw_in (List.mem_of_getElem? (i := 11) (by decide +kernel)) rfl
theorem kX10_258 : CallV RX10 258 yX10_deflate iX10_deflate 1 := ⟨mw_565, mw_567, mw_11, mw_77, mw_568, by decide +kernel, by decide⟩
theorem pX10_255 : PutOK RX10 255 4 9 .int false := ⟨RX3, TX3, 12, tyX3, rfl, by decide, inG4, mw_214, tyX3_ok, nmX3, rfl, by decide +kernel, fun h => by cases h⟩
theorem mw_606 : Cond.methodLink RX10 261 yX10_ownerError ∈ lw_g := lw_in (List.mem_of_getElem? (i := 606) (by decide +kernel)) rfl
theorem mw_609 : Cond.code yX10_ownerError cX10_ownerError 4 (some .int) ∈ lw_g := lw_in (List.mem_of_getElem? (i := 609) (by decide +kernel)) rfl
theorem mw_608 : Cond.instanceMethod yX10_ownerError ∈ lw_g := lw_in (List.mem_of_getElem? (i := 608) (by decide +kernel)) rfl
theorem mw_17 : Cond.selects RX10 yX10_ownerError yX10_ownerError ∈ lw_g := lw_in (List.mem_of_getElem? (i := 17) (by decide +kernel)) rfl
theorem kX10_261 : CallV RX10 261 yX10_ownerError iX10_ownerError 2 := ⟨mw_606, mw_608, mw_17, mw_77, mw_609, by decide +kernel, by decide⟩
theorem mw_610 : Cond.methodLink RX10 264 yX10_release ∈ lw_g := lw_in (List.mem_of_getElem? (i := 610) (by decide +kernel)) rfl
theorem mw_613 : Cond.code yX10_release cX10_release 2 none ∈ lw_g := lw_in (List.mem_of_getElem? (i := 613) (by decide +kernel)) rfl
theorem mw_612 : Cond.instanceMethod yX10_release ∈ lw_g := lw_in (List.mem_of_getElem? (i := 612) (by decide +kernel)) rfl
theorem mw_18 : Cond.selects RX10 yX10_release yX10_release ∈ lw_g := lw_in (List.mem_of_getElem? (i := 18) (by decide +kernel)) rfl
theorem kX10_264 : CallV RX10 264 yX10_release iX10_release 1 := ⟨mw_610, mw_612, mw_18, mw_77, mw_613, by decide +kernel, by decide⟩
theorem mw_614 : Cond.methodLink RX10 267 yX3_letGo ∈ lw_g := lw_in (List.mem_of_getElem? (i := 614) (by decide +kernel)) rfl
theorem kX10_267 : CallV RX10 267 yX3_letGo iX3_letGo 0 := ⟨mw_614, mw_287, mw_288, mw_81, mw_289, by decide +kernel, by decide⟩
theorem mw_615 : Cond.methodLink RX10 270 yX10_giveToFirst ∈ lw_g := lw_in (List.mem_of_getElem? (i := 615) (by decide +kernel)) rfl
theorem mw_618 : Cond.code yX10_giveToFirst cX10_giveToFirst 4 none ∈ lw_g := lw_in (List.mem_of_getElem? (i := 618) (by decide +kernel)) rfl
theorem mw_617 : Cond.instanceMethod yX10_giveToFirst ∈ lw_g := lw_in (List.mem_of_getElem? (i := 617) (by decide +kernel)) rfl
theorem mw_19 : Cond.selects RX10 yX10_giveToFirst yX10_giveToFirst ∈ lw_g := lw_in (List.mem_of_getElem? (i := 19) (by decide +kernel)) rfl
theorem kX10_270 : CallV RX10 270 yX10_giveToFirst iX10_giveToFirst 1 := ⟨mw_615, mw_617, mw_19, mw_77, mw_618, by decide +kernel, by decide⟩
theorem mw_619 : Cond.methodLink RX10 273 yX2_at ∈ lw_g := lw_in (List.mem_of_getElem? (i := 619) (by decide +kernel)) rfl
theorem mw_622 : Cond.code yX2_at cX2_at 2 (some .int) ∈ lw_g := lw_in (List.mem_of_getElem? (i := 622) (by decide +kernel)) rfl
theorem mw_620 : Cond.instanceMethod yX2_at ∈ lw_g := lw_in (List.mem_of_getElem? (i := 620) (by decide +kernel)) rfl
theorem mw_621 : Cond.selects RX2 yX2_at yX2_at ∈ lw_g := lw_in (List.mem_of_getElem? (i := 621) (by decide +kernel)) rfl
theorem kX10_273 : CallV RX10 273 yX2_at iX2_at 1 := ⟨mw_619, mw_620, mw_621, mw_82, mw_622, by decide +kernel, by decide⟩
theorem mw_623 : Cond.methodLink RX10 276 yX2_drop ∈ lw_g := lw_in (List.mem_of_getElem? (i := 623) (by decide +kernel)) rfl
theorem mw_626 : Cond.code yX2_drop cX2_drop 4 none ∈ lw_g := lw_in (List.mem_of_getElem? (i := 626) (by decide +kernel)) rfl
theorem mw_624 : Cond.instanceMethod yX2_drop ∈ lw_g := lw_in (List.mem_of_getElem? (i := 624) (by decide +kernel)) rfl
theorem mw_625 : Cond.selects RX2 yX2_drop yX2_drop ∈ lw_g := lw_in (List.mem_of_getElem? (i := 625) (by decide +kernel)) rfl
theorem kX10_276 : CallV RX10 276 yX2_drop iX2_drop 1 := ⟨mw_623, mw_624, mw_625, mw_82, mw_626, by decide +kernel, by decide⟩
theorem fX10_219 : FldOK RX10 219 8 4 := ⟨RX8, TX8, 6, rfl, by decide, inG8, mw_154⟩
theorem mw_627 : Cond.methodLink RX10 279 yX8_leavePlace ∈ lw_g := lw_in (List.mem_of_getElem? (i := 627) (by decide +kernel)) rfl
theorem mw_630 : Cond.code yX8_leavePlace cX8_leavePlace 2 none ∈ lw_g := lw_in (List.mem_of_getElem? (i := 630) (by decide +kernel)) rfl
theorem mw_628 : Cond.instanceMethod yX8_leavePlace ∈ lw_g := lw_in (List.mem_of_getElem? (i := 628) (by decide +kernel)) rfl
theorem mw_629 : Cond.selects RX8 yX8_leavePlace yX8_leavePlace ∈ lw_g := lw_in (List.mem_of_getElem? (i := 629) (by decide +kernel)) rfl
theorem kX10_279 : CallV RX10 279 yX8_leavePlace iX8_leavePlace 1 := ⟨mw_627, mw_628, mw_629, mw_80, mw_630, by decide +kernel, by decide⟩
theorem mw_147 : Cond.fieldLink RX10 282 "LockSimulator$Strand" "interrupted" "Z" ∈ lw_g := lw_in (List.mem_of_getElem? (i := 147) (by decide +kernel)) rfl
theorem fX10_282 : FldOK RX10 282 8 1 := ⟨RX8, TX8, 6, rfl, by decide, inG8, mw_147⟩
theorem pX10_282 : PutOK RX10 282 8 1 .boolean false := ⟨RX8, TX8, 6, tyX8, rfl, by decide, inG8, mw_147, tyX8_ok, nmX8, rfl, by decide +kernel, fun h => by cases h⟩
theorem mw_157 : Cond.fieldLink RX10 285 "LockSimulator$Strand" "waitEnding" "I" ∈ lw_g := lw_in (List.mem_of_getElem? (i := 157) (by decide +kernel)) rfl
theorem pX10_285 : PutOK RX10 285 8 5 .int false := ⟨RX8, TX8, 6, tyX8, rfl, by decide, inG8, mw_157, tyX8_ok, nmX8, rfl, by decide +kernel, fun h => by cases h⟩
theorem mw_635 : Cond.methodLink RX10 288 yX10_beginWait ∈ lw_g := lw_in (List.mem_of_getElem? (i := 635) (by decide +kernel)) rfl
theorem mw_638 : Cond.code yX10_beginWait cX10_beginWait 5 none ∈ lw_g := lw_in (List.mem_of_getElem? (i := 638) (by decide +kernel)) rfl
theorem mw_637 : Cond.instanceMethod yX10_beginWait ∈ lw_g := lw_in (List.mem_of_getElem? (i := 637) (by decide +kernel)) rfl
theorem mw_21 : Cond.selects RX10 yX10_beginWait yX10_beginWait ∈ lw_g := lw_in (List.mem_of_getElem? (i := 21) (by decide +kernel)) rfl
theorem kX10_288 : CallV RX10 288 yX10_beginWait iX10_beginWait 3 := ⟨mw_635, mw_637, mw_21, mw_77, mw_638, by decide +kernel, by decide⟩
theorem mw_152 : Cond.fieldLink RX10 292 "LockSimulator$Strand" "limit" "I" ∈ lw_g := lw_in (List.mem_of_getElem? (i := 152) (by decide +kernel)) rfl
theorem pX10_292 : PutOK RX10 292 8 3 .int false := ⟨RX8, TX8, 6, tyX8, rfl, by decide, inG8, mw_152, tyX8_ok, nmX8, rfl, by decide +kernel, fun h => by cases h⟩
theorem mw_220 : Cond.fieldLink RX10 295 "LockSimulator$Lock" "waitSet" "LLockSimulator$Line;" ∈ lw_g := lw_in (List.mem_of_getElem? (i := 220) (by decide +kernel)) rfl
theorem fX10_295 : FldOK RX10 295 4 11 := ⟨RX3, TX3, 12, rfl, by decide, inG4, mw_220⟩
theorem mw_643 : Cond.methodLink RX10 298 yX10_endWait ∈ lw_g := lw_in (List.mem_of_getElem? (i := 643) (by decide +kernel)) rfl
theorem mw_646 : Cond.code yX10_endWait cX10_endWait 5 none ∈ lw_g := lw_in (List.mem_of_getElem? (i := 646) (by decide +kernel)) rfl
theorem mw_645 : Cond.instanceMethod yX10_endWait ∈ lw_g := lw_in (List.mem_of_getElem? (i := 645) (by decide +kernel)) rfl
theorem mw_23 : Cond.selects RX10 yX10_endWait yX10_endWait ∈ lw_g := lw_in (List.mem_of_getElem? (i := 23) (by decide +kernel)) rfl
theorem kX10_298 : CallV RX10 298 yX10_endWait iX10_endWait 3 := ⟨mw_643, mw_645, mw_23, mw_77, mw_646, by decide +kernel, by decide⟩
theorem mw_647 : Cond.methodLink RX10 301 yX2_putFirst ∈ lw_g := lw_in (List.mem_of_getElem? (i := 647) (by decide +kernel)) rfl
theorem mw_650 : Cond.code yX2_putFirst cX2_putFirst 3 none ∈ lw_g := lw_in (List.mem_of_getElem? (i := 650) (by decide +kernel)) rfl
theorem mw_648 : Cond.instanceMethod yX2_putFirst ∈ lw_g := lw_in (List.mem_of_getElem? (i := 648) (by decide +kernel)) rfl
theorem mw_649 : Cond.selects RX2 yX2_putFirst yX2_putFirst ∈ lw_g := lw_in (List.mem_of_getElem? (i := 649) (by decide +kernel)) rfl
theorem kX10_301 : CallV RX10 301 yX2_putFirst iX2_putFirst 1 := ⟨mw_647, mw_648, mw_649, mw_82, mw_650, by decide +kernel, by decide⟩
theorem fX10_216 : FldOK RX10 216 8 2 := ⟨RX8, TX8, 6, rfl, by decide, inG8, mw_149⟩
theorem mw_212 : Cond.fieldLink RX10 304 "LockSimulator$Lock" "hashValue" "I" ∈ lw_g := lw_in (List.mem_of_getElem? (i := 212) (by decide +kernel)) rfl
theorem fX10_304 : FldOK RX10 304 4 8 := ⟨RX3, TX3, 12, rfl, by decide, inG4, mw_212⟩
theorem pX10_304 : PutOK RX10 304 4 8 .int false := ⟨RX3, TX3, 12, tyX3, rfl, by decide, inG4, mw_212, tyX3_ok, nmX3, rfl, by decide +kernel, fun h => by cases h⟩
theorem mw_675 : Cond.methodLink RX10 307 yX10_endOverdueWaits ∈ lw_g := lw_in (List.mem_of_getElem? (i := 675) (by decide +kernel)) rfl
theorem mw_678 : Cond.code yX10_endOverdueWaits cX10_endOverdueWaits 5 none ∈ lw_g := lw_in (List.mem_of_getElem? (i := 678) (by decide +kernel)) rfl
theorem mw_677 : Cond.instanceMethod yX10_endOverdueWaits ∈ lw_g := lw_in (List.mem_of_getElem? (i := 677) (by decide +kernel)) rfl
theorem mw_30 : Cond.selects RX10 yX10_endOverdueWaits yX10_endOverdueWaits ∈ lw_g := lw_in (List.mem_of_getElem? (i := 30) (by decide +kernel)) rfl
theorem kX10_307 : CallV RX10 307 yX10_endOverdueWaits iX10_endOverdueWaits 0 := ⟨mw_675, mw_677, mw_30, mw_77, mw_678, by decide +kernel, by decide⟩
theorem mw_679 : Cond.methodLink RX10 310 yX10_wakeQueues ∈ lw_g := lw_in (List.mem_of_getElem? (i := 679) (by decide +kernel)) rfl
theorem mw_682 : Cond.code yX10_wakeQueues cX10_wakeQueues 6 (some .int) ∈ lw_g := lw_in (List.mem_of_getElem? (i := 682) (by decide +kernel)) rfl
theorem mw_681 : Cond.instanceMethod yX10_wakeQueues ∈ lw_g := lw_in (List.mem_of_getElem? (i := 681) (by decide +kernel)) rfl
theorem mw_31 : Cond.selects RX10 yX10_wakeQueues yX10_wakeQueues ∈ lw_g := lw_in (List.mem_of_getElem? (i := 31) (by decide +kernel)) rfl
theorem kX10_310 : CallV RX10 310 yX10_wakeQueues iX10_wakeQueues 0 := ⟨mw_679, mw_681, mw_31, mw_77, mw_682, by decide +kernel, by decide⟩
theorem mw_683 : Cond.methodLink RX10 313 yX10_deflateOverdue ∈ lw_g := lw_in (List.mem_of_getElem? (i := 683) (by decide +kernel)) rfl
theorem mw_686 : Cond.code yX10_deflateOverdue cX10_deflateOverdue 6 none ∈ lw_g := lw_in (List.mem_of_getElem? (i := 686) (by decide +kernel)) rfl
theorem mw_685 : Cond.instanceMethod yX10_deflateOverdue ∈ lw_g := lw_in (List.mem_of_getElem? (i := 685) (by decide +kernel)) rfl
theorem mw_32 : Cond.selects RX10 yX10_deflateOverdue yX10_deflateOverdue ∈ lw_g := lw_in (List.mem_of_getElem? (i := 32) (by decide +kernel)) rfl
theorem kX10_313 : CallV RX10 313 yX10_deflateOverdue iX10_deflateOverdue 0 := ⟨mw_683, mw_685, mw_32, mw_77, mw_686, by decide +kernel, by decide⟩
theorem fX10_292 : FldOK RX10 292 8 3 := ⟨RX8, TX8, 6, rfl, by decide, inG8, mw_152⟩
theorem mw_760 : Cond.methodLink RX10 316 yX10_waitedFor ∈ lw_g := lw_in (List.mem_of_getElem? (i := 760) (by decide +kernel)) rfl
theorem mw_763 : Cond.code yX10_waitedFor cX10_waitedFor 4 (some .int) ∈ lw_g := lw_in (List.mem_of_getElem? (i := 763) (by decide +kernel)) rfl
theorem mw_762 : Cond.instanceMethod yX10_waitedFor ∈ lw_g := lw_in (List.mem_of_getElem? (i := 762) (by decide +kernel)) rfl
theorem mw_33 : Cond.selects RX10 yX10_waitedFor yX10_waitedFor ∈ lw_g := lw_in (List.mem_of_getElem? (i := 33) (by decide +kernel)) rfl
theorem kX10_316 : CallV RX10 316 yX10_waitedFor iX10_waitedFor 1 := ⟨mw_760, mw_762, mw_33, mw_77, mw_763, by decide +kernel, by decide⟩
theorem kX11_1 : Cond.methodLink RX11 1 objectInit ∈ lw_g := lw_in (List.mem_of_getElem? (i := 106) (by decide +kernel)) rfl
theorem mw_109 : Cond.classLink RX11 7 RX10 ∈ lw_g := lw_in (List.mem_of_getElem? (i := 109) (by decide +kernel)) rfl
theorem nX11_7 : NewOK RX11 7 9 8 [.null, .null, .null, .null, .null, .int 0, .int 0, .int 0] := ⟨RX10, TX10, tyX10, rfl, inG9, tyX10_ok, by decide +kernel, mw_109, mw_110, mw_77⟩
theorem mw_111 : Cond.methodLink RX11 9 yX10_init ∈ lw_g := lw_in (List.mem_of_getElem? (i := 111) (by decide +kernel)) rfl
theorem kX11_9 : CallI RX11 9 yX10_init iX10_init 0 := ⟨mw_111, mw_112, rfl, mw_77, mw_113, by decide +kernel, by decide, rfl⟩
theorem mw_432 : Cond.fieldLink RX11 10 "LockSimulator" "world" "LLockSimulator$World;" ∈ lw_g := lw_in (List.mem_of_getElem? (i := 432) (by decide +kernel)) rfl
theorem pX11_10 : PutOK RX11 10 10 0 (.object "LockSimulator$World") true := ⟨RX11, TX11, 6, tyX11, rfl, by decide, inG10, mw_432, tyX11_ok, nmX11, rfl, by decide +kernel, fun _ => rfl⟩
theorem mw_433 : Cond.fieldLink RX11 16 "LockSimulator" "trial" "LLockSimulator$World;" ∈ lw_g := lw_in (List.mem_of_getElem? (i := 433) (by decide +kernel)) rfl
theorem pX11_16 : PutOK RX11 16 10 1 (.object "LockSimulator$World") true := ⟨RX11, TX11, 6, tyX11, rfl, by decide, inG10, mw_433, tyX11_ok, nmX11, rfl, by decide +kernel, fun _ => rfl⟩
theorem mw_330 : Cond.classLink RX11 19 RX0 ∈ lw_g := lw_in (List.mem_of_getElem? (i := 330) (by decide +kernel)) rfl
theorem nX11_19 : NewOK RX11 19 1 5 [.null, .null, .null, .null, .int 0] := ⟨RX0, TX0, tyX0, rfl, inG1, tyX0_ok, by decide +kernel, mw_330, mw_331, mw_85⟩
theorem mw_332 : Cond.methodLink RX11 21 yX0_init ∈ lw_g := lw_in (List.mem_of_getElem? (i := 332) (by decide +kernel)) rfl
theorem kX11_21 : CallI RX11 21 yX0_init iX0_init 0 := ⟨mw_332, mw_333, rfl, mw_85, mw_334, by decide +kernel, by decide, rfl⟩
theorem mw_434 : Cond.fieldLink RX11 22 "LockSimulator" "journal" "LLockSimulator$Journal;" ∈ lw_g := lw_in (List.mem_of_getElem? (i := 434) (by decide +kernel)) rfl
theorem pX11_22 : PutOK RX11 22 10 2 (.object "LockSimulator$Journal") true := ⟨RX11, TX11, 6, tyX11, rfl, by decide, inG10, mw_434, tyX11_ok, nmX11, rfl, by decide +kernel, fun _ => rfl⟩
theorem mw_357 : Cond.classLink RX11 26 RX5 ∈ lw_g := lw_in (List.mem_of_getElem? (i := 357) (by decide +kernel)) rfl
theorem mw_358 : Cond.instantiable RX5 4 ∈ lw_g := lw_in (List.mem_of_getElem? (i := 358) (by decide +kernel)) rfl
theorem nX11_26 : NewOK RX11 26 5 4 [.null, .null, .int 0, .int 0] := ⟨RX5, TX5, tyX5, rfl, inG5, tyX5_ok, by decide +kernel, mw_357, mw_358, mw_86⟩
theorem mw_359 : Cond.methodLink RX11 28 yX5_init ∈ lw_g := lw_in (List.mem_of_getElem? (i := 359) (by decide +kernel)) rfl
theorem mw_361 : Cond.code yX5_init cX5_init 1 none ∈ lw_g := lw_in (List.mem_of_getElem? (i := 361) (by decide +kernel)) rfl
theorem mw_360 : Cond.instanceMethod yX5_init ∈ lw_g := lw_in (List.mem_of_getElem? (i := 360) (by decide +kernel)) rfl
theorem kX11_28 : CallI RX11 28 yX5_init iX5_init 0 := ⟨mw_359, mw_360, rfl, mw_86, mw_361, by decide +kernel, by decide, rfl⟩
theorem mw_435 : Cond.fieldLink RX11 29 "LockSimulator" "script" "LLockSimulator$Script;" ∈ lw_g := lw_in (List.mem_of_getElem? (i := 435) (by decide +kernel)) rfl
theorem pX11_29 : PutOK RX11 29 10 3 (.object "LockSimulator$Script") true := ⟨RX11, TX11, 6, tyX11, rfl, by decide, inG10, mw_435, tyX11_ok, nmX11, rfl, by decide +kernel, fun _ => rfl⟩
theorem mw_377 : Cond.classLink RX11 33 "LockSimulator$Slot" ∈ lw_g := lw_in (List.mem_of_getElem? (i := 377) (by decide +kernel)) rfl
theorem aX11_33 : Cond.classLink RX11 33 "LockSimulator$Slot" ∈ lw_g := mw_377
theorem mw_436 : Cond.fieldLink RX11 35 "LockSimulator" "slots" "[LLockSimulator$Slot;" ∈ lw_g := lw_in (List.mem_of_getElem? (i := 436) (by decide +kernel)) rfl
theorem pX11_35 : PutOK RX11 35 10 4 (.array (.object "LockSimulator$Slot")) true := ⟨RX11, TX11, 6, tyX11, rfl, by decide, inG10, mw_436, tyX11_ok, nmX11, rfl, by decide +kernel, fun _ => rfl⟩
theorem mw_379 : Cond.classLink RX11 39 RJ4 ∈ lw_g := lw_in (List.mem_of_getElem? (i := 379) (by decide +kernel)) rfl
theorem mw_380 : Cond.instantiable RJ4 4 ∈ lw_g := lw_in (List.mem_of_getElem? (i := 380) (by decide +kernel)) rfl
theorem nX11_39 : NewOK RX11 39 0 4 [.null, .int 0, .int 0, .int 0] := ⟨RJ4, TJ4, tyJ4, rfl, inG0, tyJ4_ok, by decide +kernel, mw_379, mw_380, mw_88⟩
theorem mw_381 : Cond.methodLink RX11 41 yJ4_init_da8c8 ∈ lw_g := lw_in (List.mem_of_getElem? (i := 381) (by decide +kernel)) rfl
theorem mw_383 : Cond.code yJ4_init_da8c8 cJ4_init_da8c8 1 none ∈ lw_g := lw_in (List.mem_of_getElem? (i := 383) (by decide +kernel)) rfl
theorem mw_382 : Cond.instanceMethod yJ4_init_da8c8 ∈ lw_g := lw_in (List.mem_of_getElem? (i := 382) (by decide +kernel)) rfl
theorem kX11_41 : CallI RX11 41 yJ4_init_da8c8 iJ4_init_da8c8 0 := ⟨mw_381, mw_382, rfl, mw_88, mw_383, by decide +kernel, by decide, rfl⟩
theorem mw_437 : Cond.fieldLink RX11 42 "LockSimulator" "description" "Ljava/lang/StringBuilder;" ∈ lw_g := lw_in (List.mem_of_getElem? (i := 437) (by decide +kernel)) rfl
theorem pX11_42 : PutOK RX11 42 10 5 (.object "java/lang/StringBuilder") true := ⟨RX11, TX11, 6, tyX11, rfl, by decide, inG10, mw_437, tyX11_ok, nmX11, rfl, by decide +kernel, fun _ => rfl⟩
theorem fX11_35 : FldOK RX11 35 10 4 := ⟨RX11, TX11, 6, rfl, by decide, inG10, mw_436⟩
theorem mw_411 : Cond.instantiable RX7 3 ∈ lw_g := lw_in (List.mem_of_getElem? (i := 411) (by decide +kernel)) rfl
theorem mw_91 : Cond.initialized RX7 ∈ lw_g := lw_in (List.mem_of_getElem? (i := 91) (by decide +kernel)) rfl
theorem nX11_33 : NewOK RX11 33 7 3 [.null, .null, .int 0] := ⟨RX7, TX7, tyX7, rfl, inG7, tyX7_ok, by decide +kernel, mw_377, mw_411, mw_91⟩
theorem mw_412 : Cond.methodLink RX11 46 yX7_init ∈ lw_g := lw_in (List.mem_of_getElem? (i := 412) (by decide +kernel)) rfl
theorem mw_414 : Cond.code yX7_init cX7_init 1 none ∈ lw_g := lw_in (List.mem_of_getElem? (i := 414) (by decide +kernel)) rfl
theorem mw_413 : Cond.instanceMethod yX7_init ∈ lw_g := lw_in (List.mem_of_getElem? (i := 413) (by decide +kernel)) rfl
theorem kX11_46 : CallI RX11 46 yX7_init iX7_init 0 := ⟨mw_412, mw_413, rfl, mw_91, mw_414, by decide +kernel, by decide, rfl⟩
theorem fX11_10 : FldOK RX11 10 10 0 := ⟨RX11, TX11, 6, rfl, by decide, inG10, mw_432⟩
theorem mw_309 : Cond.fieldLink RX11 47 "LockSimulator$World" "threadCount" "I" ∈ lw_g := lw_in (List.mem_of_getElem? (i := 309) (by decide +kernel)) rfl
theorem fX11_47 : FldOK RX11 47 9 5 := ⟨RX10, TX10, 8, rfl, by decide, inG9, mw_309⟩
theorem mw_455 : Cond.methodLink RX11 51 yX10_begin ∈ lw_g := lw_in (List.mem_of_getElem? (i := 455) (by decide +kernel)) rfl
theorem kX11_51 : CallV RX11 51 yX10_begin iX10_begin 1 := ⟨mw_455, mw_268, mw_269, mw_77, mw_270, by decide +kernel, by decide⟩
theorem fX11_22 : FldOK RX11 22 10 2 := ⟨RX11, TX11, 6, rfl, by decide, inG10, mw_434⟩
theorem mw_456 : Cond.methodLink RX11 55 yX0_clear ∈ lw_g := lw_in (List.mem_of_getElem? (i := 456) (by decide +kernel)) rfl
theorem mw_459 : Cond.code yX0_clear cX0_clear 1 none ∈ lw_g := lw_in (List.mem_of_getElem? (i := 459) (by decide +kernel)) rfl
theorem mw_457 : Cond.instanceMethod yX0_clear ∈ lw_g := lw_in (List.mem_of_getElem? (i := 457) (by decide +kernel)) rfl
theorem mw_458 : Cond.selects RX0 yX0_clear yX0_clear ∈ lw_g := lw_in (List.mem_of_getElem? (i := 458) (by decide +kernel)) rfl
theorem kX11_55 : CallV RX11 55 yX0_clear iX0_clear 0 := ⟨mw_456, mw_457, mw_458, mw_85, mw_459, by decide +kernel, by decide⟩
theorem mw_464 : Cond.methodLink RX11 58 yX6_allows ∈ lw_g := lw_in (List.mem_of_getElem? (i := 464) (by decide +kernel)) rfl
theorem kX11_58 : CallS RX11 58 yX6_allows iX6_allows 2 := ⟨mw_464, mw_465, mw_78, mw_466, by decide +kernel, by decide⟩
theorem mw_474 : Cond.methodLink RX11 64 yX10_monitorsInUse ∈ lw_g := lw_in (List.mem_of_getElem? (i := 474) (by decide +kernel)) rfl
theorem kX11_64 : CallV RX11 64 yX10_monitorsInUse iX10_monitorsInUse 0 := ⟨mw_474, mw_475, mw_476, mw_77, mw_477, by decide +kernel, by decide⟩
theorem mw_299 : Cond.fieldLink RX11 68 "LockSimulator$World" "settings" "LLockSimulator$Settings;" ∈ lw_g := lw_in (List.mem_of_getElem? (i := 299) (by decide +kernel)) rfl
theorem fX11_68 : FldOK RX11 68 9 0 := ⟨RX10, TX10, 8, rfl, by decide, inG9, mw_299⟩
theorem mw_478 : Cond.methodLink RX11 72 yX6_valueOf ∈ lw_g := lw_in (List.mem_of_getElem? (i := 478) (by decide +kernel)) rfl
theorem kX11_72 : CallV RX11 72 yX6_valueOf iX6_valueOf 1 := ⟨mw_478, mw_279, mw_280, mw_78, mw_281, by decide +kernel, by decide⟩
theorem mw_479 : Cond.methodLink RX11 76 yX6_change ∈ lw_g := lw_in (List.mem_of_getElem? (i := 479) (by decide +kernel)) rfl
theorem mw_482 : Cond.code yX6_change cX6_change 3 none ∈ lw_g := lw_in (List.mem_of_getElem? (i := 482) (by decide +kernel)) rfl
theorem mw_480 : Cond.instanceMethod yX6_change ∈ lw_g := lw_in (List.mem_of_getElem? (i := 480) (by decide +kernel)) rfl
theorem mw_481 : Cond.selects RX6 yX6_change yX6_change ∈ lw_g := lw_in (List.mem_of_getElem? (i := 481) (by decide +kernel)) rfl
theorem kX11_76 : CallV RX11 76 yX6_change iX6_change 2 := ⟨mw_479, mw_480, mw_481, mw_78, mw_482, by decide +kernel, by decide⟩
theorem mw_488 : Cond.methodLink RX11 80 yX6_exists ∈ lw_g := lw_in (List.mem_of_getElem? (i := 488) (by decide +kernel)) rfl
theorem kX11_80 : CallS RX11 80 yX6_exists iX6_exists 1 := ⟨mw_488, mw_468, mw_78, mw_469, by decide +kernel, by decide⟩
theorem mw_493 : Cond.methodLink RX11 86 yX11_operate ∈ lw_g := lw_in (List.mem_of_getElem? (i := 493) (by decide +kernel)) rfl
theorem mw_76 : Cond.initialized RX11 ∈ lw_g := lw_in (List.mem_of_getElem? (i := 76) (by decide +kernel)) rfl
theorem mw_496 : Cond.code yX11_operate cX11_operate 6 (some .int) ∈ lw_g := lw_in (List.mem_of_getElem? (i := 496) (by decide +kernel)) rfl
theorem mw_495 : Cond.instanceMethod yX11_operate ∈ lw_g := lw_in (List.mem_of_getElem? (i := 495) (by decide +kernel)) rfl
theorem mw_0 : Cond.selects RX11 yX11_operate yX11_operate ∈ lw_g := lw_in (List.mem_of_getElem? (i := 0) (by decide +kernel)) rfl
theorem kX11_86 : CallV RX11 86 yX11_operate iX11_operate 4 := ⟨mw_493, mw_495, mw_0, mw_76, mw_496, by decide +kernel, by decide⟩
theorem mw_497 : Cond.methodLink RX11 90 yX10_perform ∈ lw_g := lw_in (List.mem_of_getElem? (i := 497) (by decide +kernel)) rfl
theorem mw_500 : Cond.code yX10_perform cX10_perform 5 (some .int) ∈ lw_g := lw_in (List.mem_of_getElem? (i := 500) (by decide +kernel)) rfl
theorem mw_498 : Cond.instanceMethod yX10_perform ∈ lw_g := lw_in (List.mem_of_getElem? (i := 498) (by decide +kernel)) rfl
theorem mw_499 : Cond.selects RX10 yX10_perform yX10_perform ∈ lw_g := lw_in (List.mem_of_getElem? (i := 499) (by decide +kernel)) rfl
theorem kX11_90 : CallV RX11 90 yX10_perform iX10_perform 4 := ⟨mw_497, mw_498, mw_499, mw_77, mw_500, by decide +kernel, by decide⟩
theorem mw_687 : Cond.methodLink RX11 93 yX11_isError ∈ lw_g := lw_in (List.mem_of_getElem? (i := 687) (by decide +kernel)) rfl
theorem mw_689 : Cond.code yX11_isError cX11_isError 1 (some .boolean) ∈ lw_g := lw_in (List.mem_of_getElem? (i := 689) (by decide +kernel)) rfl
theorem mw_688 : Cond.static yX11_isError ∈ lw_g := lw_in (List.mem_of_getElem? (i := 688) (by decide +kernel)) rfl
theorem kX11_93 : CallS RX11 93 yX11_isError iX11_isError 1 := ⟨mw_687, mw_688, mw_76, mw_689, by decide +kernel, by decide⟩
theorem mw_690 : Cond.methodLink RX11 96 yX0_add ∈ lw_g := lw_in (List.mem_of_getElem? (i := 690) (by decide +kernel)) rfl
theorem mw_693 : Cond.code yX0_add cX0_add 5 none ∈ lw_g := lw_in (List.mem_of_getElem? (i := 693) (by decide +kernel)) rfl
theorem mw_691 : Cond.instanceMethod yX0_add ∈ lw_g := lw_in (List.mem_of_getElem? (i := 691) (by decide +kernel)) rfl
theorem mw_692 : Cond.selects RX0 yX0_add yX0_add ∈ lw_g := lw_in (List.mem_of_getElem? (i := 692) (by decide +kernel)) rfl
theorem kX11_96 : CallV RX11 96 yX0_add iX0_add 4 := ⟨mw_690, mw_691, mw_692, mw_85, mw_693, by decide +kernel, by decide⟩
theorem mw_738 : Cond.methodLink RX11 100 yX10_hasThread ∈ lw_g := lw_in (List.mem_of_getElem? (i := 738) (by decide +kernel)) rfl
theorem kX11_100 : CallV RX11 100 yX10_hasThread iX10_hasThread 1 := ⟨mw_738, mw_510, mw_511, mw_77, mw_512, by decide +kernel, by decide⟩
theorem mw_303 : Cond.fieldLink RX11 103 "LockSimulator$World" "strands" "[LLockSimulator$Strand;" ∈ lw_g := lw_in (List.mem_of_getElem? (i := 303) (by decide +kernel)) rfl
theorem fX11_103 : FldOK RX11 103 9 2 := ⟨RX10, TX10, 8, rfl, by decide, inG9, mw_303⟩
theorem mw_146 : Cond.fieldLink RX11 107 "LockSimulator$Strand" "interrupted" "Z" ∈ lw_g := lw_in (List.mem_of_getElem? (i := 146) (by decide +kernel)) rfl
theorem fX11_107 : FldOK RX11 107 8 1 := ⟨RX8, TX8, 6, rfl, by decide, inG8, mw_146⟩
theorem mw_144 : Cond.fieldLink RX11 113 "LockSimulator$Strand" "state" "I" ∈ lw_g := lw_in (List.mem_of_getElem? (i := 144) (by decide +kernel)) rfl
theorem fX11_113 : FldOK RX11 113 8 0 := ⟨RX8, TX8, 6, rfl, by decide, inG8, mw_144⟩
theorem mw_150 : Cond.fieldLink RX11 116 "LockSimulator$Strand" "place" "I" ∈ lw_g := lw_in (List.mem_of_getElem? (i := 150) (by decide +kernel)) rfl
theorem fX11_116 : FldOK RX11 116 8 2 := ⟨RX8, TX8, 6, rfl, by decide, inG8, mw_150⟩
theorem mw_305 : Cond.fieldLink RX11 119 "LockSimulator$World" "locks" "[LLockSimulator$Lock;" ∈ lw_g := lw_in (List.mem_of_getElem? (i := 305) (by decide +kernel)) rfl
theorem fX11_119 : FldOK RX11 119 9 3 := ⟨RX10, TX10, 8, rfl, by decide, inG9, mw_305⟩
theorem mw_747 : Cond.methodLink RX11 123 yX3_isHeldBy ∈ lw_g := lw_in (List.mem_of_getElem? (i := 747) (by decide +kernel)) rfl
theorem kX11_123 : CallV RX11 123 yX3_isHeldBy iX3_isHeldBy 1 := ⟨mw_747, mw_570, mw_571, mw_81, mw_572, by decide +kernel, by decide⟩
theorem mw_156 : Cond.fieldLink RX11 128 "LockSimulator$Strand" "waitEnding" "I" ∈ lw_g := lw_in (List.mem_of_getElem? (i := 156) (by decide +kernel)) rfl
theorem fX11_128 : FldOK RX11 128 8 5 := ⟨RX8, TX8, 6, rfl, by decide, inG8, mw_156⟩
theorem mw_756 : Cond.methodLink RX11 131 yX10_waitsForItself ∈ lw_g := lw_in (List.mem_of_getElem? (i := 756) (by decide +kernel)) rfl
theorem mw_759 : Cond.code yX10_waitsForItself cX10_waitsForItself 4 (some .boolean) ∈ lw_g := lw_in (List.mem_of_getElem? (i := 759) (by decide +kernel)) rfl
theorem mw_757 : Cond.instanceMethod yX10_waitsForItself ∈ lw_g := lw_in (List.mem_of_getElem? (i := 757) (by decide +kernel)) rfl
theorem mw_758 : Cond.selects RX10 yX10_waitsForItself yX10_waitsForItself ∈ lw_g := lw_in (List.mem_of_getElem? (i := 758) (by decide +kernel)) rfl
theorem kX11_131 : CallV RX11 131 yX10_waitsForItself iX10_waitsForItself 1 := ⟨mw_756, mw_757, mw_758, mw_77, mw_759, by decide +kernel, by decide⟩
theorem mw_768 : Cond.methodLink RX11 134 yX11_isObject ∈ lw_g := lw_in (List.mem_of_getElem? (i := 768) (by decide +kernel)) rfl
theorem mw_515 : Cond.code yX11_isObject cX11_isObject 1 (some .boolean) ∈ lw_g := lw_in (List.mem_of_getElem? (i := 515) (by decide +kernel)) rfl
theorem mw_514 : Cond.static yX11_isObject ∈ lw_g := lw_in (List.mem_of_getElem? (i := 514) (by decide +kernel)) rfl
theorem kX11_134 : CallS RX11 134 yX11_isObject iX11_isObject 1 := ⟨mw_768, mw_514, mw_76, mw_515, by decide +kernel, by decide⟩
theorem mw_210 : Cond.fieldLink RX11 137 "LockSimulator$Lock" "abandoned" "Z" ∈ lw_g := lw_in (List.mem_of_getElem? (i := 210) (by decide +kernel)) rfl
theorem fX11_137 : FldOK RX11 137 4 7 := ⟨RX3, TX3, 12, rfl, by decide, inG4, mw_210⟩
theorem mw_196 : Cond.fieldLink RX11 140 "LockSimulator$Lock" "state" "I" ∈ lw_g := lw_in (List.mem_of_getElem? (i := 196) (by decide +kernel)) rfl
theorem fX11_140 : FldOK RX11 140 4 2 := ⟨RX3, TX3, 12, rfl, by decide, inG4, mw_196⟩
theorem mw_199 : Cond.fieldLink RX11 141 "LockSimulator$Lock" "holder" "I" ∈ lw_g := lw_in (List.mem_of_getElem? (i := 199) (by decide +kernel)) rfl
theorem fX11_141 : FldOK RX11 141 4 3 := ⟨RX3, TX3, 12, rfl, by decide, inG4, mw_199⟩
theorem mw_202 : Cond.fieldLink RX11 144 "LockSimulator$Lock" "entries" "I" ∈ lw_g := lw_in (List.mem_of_getElem? (i := 202) (by decide +kernel)) rfl
theorem fX11_144 : FldOK RX11 144 4 4 := ⟨RX3, TX3, 12, rfl, by decide, inG4, mw_202⟩
theorem mw_781 : Cond.methodLink RX11 147 yX10_biasIsValid ∈ lw_g := lw_in (List.mem_of_getElem? (i := 781) (by decide +kernel)) rfl
theorem kX11_147 : CallV RX11 147 yX10_biasIsValid iX10_biasIsValid 1 := ⟨mw_781, mw_542, mw_543, mw_77, mw_544, by decide +kernel, by decide⟩
theorem mw_205 : Cond.fieldLink RX11 151 "LockSimulator$Lock" "biasThread" "I" ∈ lw_g := lw_in (List.mem_of_getElem? (i := 205) (by decide +kernel)) rfl
theorem fX11_151 : FldOK RX11 151 4 5 := ⟨RX3, TX3, 12, rfl, by decide, inG4, mw_205⟩
theorem mw_217 : Cond.fieldLink RX11 154 "LockSimulator$Lock" "queue" "LLockSimulator$Line;" ∈ lw_g := lw_in (List.mem_of_getElem? (i := 217) (by decide +kernel)) rfl
theorem fX11_154 : FldOK RX11 154 4 10 := ⟨RX3, TX3, 12, rfl, by decide, inG4, mw_217⟩
theorem mw_786 : Cond.methodLink RX11 158 yX2_at ∈ lw_g := lw_in (List.mem_of_getElem? (i := 786) (by decide +kernel)) rfl
theorem kX11_158 : CallV RX11 158 yX2_at iX2_at 1 := ⟨mw_786, mw_620, mw_621, mw_82, mw_622, by decide +kernel, by decide⟩
theorem mw_219 : Cond.fieldLink RX11 163 "LockSimulator$Lock" "waitSet" "LLockSimulator$Line;" ∈ lw_g := lw_in (List.mem_of_getElem? (i := 219) (by decide +kernel)) rfl
theorem fX11_163 : FldOK RX11 163 4 11 := ⟨RX3, TX3, 12, rfl, by decide, inG4, mw_219⟩
theorem fX11_42 : FldOK RX11 42 10 5 := ⟨RX11, TX11, 6, rfl, by decide, inG10, mw_437⟩
theorem mw_795 : Cond.methodLink RX11 166 yJ4_setLength_d00df ∈ lw_g := lw_in (List.mem_of_getElem? (i := 795) (by decide +kernel)) rfl
theorem mw_798 : Cond.code yJ4_setLength_d00df cJ4_setLength_d00df 2 none ∈ lw_g := lw_in (List.mem_of_getElem? (i := 798) (by decide +kernel)) rfl
theorem mw_796 : Cond.instanceMethod yJ4_setLength_d00df ∈ lw_g := lw_in (List.mem_of_getElem? (i := 796) (by decide +kernel)) rfl
theorem mw_797 : Cond.selects RJ4 yJ4_setLength_d00df yJ4_setLength_d00df ∈ lw_g := lw_in (List.mem_of_getElem? (i := 797) (by decide +kernel)) rfl
theorem kX11_166 : CallV RX11 166 yJ4_setLength_d00df iJ4_setLength_d00df 1 := ⟨mw_795, mw_796, mw_797, mw_88, mw_798, by decide +kernel, by decide⟩
theorem mw_853 : Cond.methodLink RX11 169 yX3_putDescription ∈ lw_g := lw_in (List.mem_of_getElem? (i := 853) (by decide +kernel)) rfl
theorem mw_856 : Cond.code yX3_putDescription cX3_putDescription 3 none ∈ lw_g := lw_in (List.mem_of_getElem? (i := 856) (by decide +kernel)) rfl
theorem mw_854 : Cond.instanceMethod yX3_putDescription ∈ lw_g := lw_in (List.mem_of_getElem? (i := 854) (by decide +kernel)) rfl
theorem mw_855 : Cond.selects RX3 yX3_putDescription yX3_putDescription ∈ lw_g := lw_in (List.mem_of_getElem? (i := 855) (by decide +kernel)) rfl
theorem kX11_169 : CallV RX11 169 yX3_putDescription iX3_putDescription 2 := ⟨mw_853, mw_854, mw_855, mw_81, mw_856, by decide +kernel, by decide⟩
theorem mw_986 : Cond.methodLink RX11 173 yJ4_length_8abf5 ∈ lw_g := lw_in (List.mem_of_getElem? (i := 986) (by decide +kernel)) rfl
theorem mw_989 : Cond.code yJ4_length_8abf5 cJ4_length_8abf5 1 (some .int) ∈ lw_g := lw_in (List.mem_of_getElem? (i := 989) (by decide +kernel)) rfl
theorem mw_987 : Cond.instanceMethod yJ4_length_8abf5 ∈ lw_g := lw_in (List.mem_of_getElem? (i := 987) (by decide +kernel)) rfl
theorem mw_988 : Cond.selects RJ4 yJ4_length_8abf5 yJ4_length_8abf5 ∈ lw_g := lw_in (List.mem_of_getElem? (i := 988) (by decide +kernel)) rfl
theorem kX11_173 : CallV RX11 173 yJ4_length_8abf5 iJ4_length_8abf5 0 := ⟨mw_986, mw_987, mw_988, mw_88, mw_989, by decide +kernel, by decide⟩
theorem mw_993 : Cond.methodLink RX11 176 yJ4_charAt_5068e ∈ lw_g := lw_in (List.mem_of_getElem? (i := 993) (by decide +kernel)) rfl
theorem mw_996 : Cond.code yJ4_charAt_5068e cJ4_charAt_5068e 2 (some .char) ∈ lw_g := lw_in (List.mem_of_getElem? (i := 996) (by decide +kernel)) rfl
theorem mw_994 : Cond.instanceMethod yJ4_charAt_5068e ∈ lw_g := lw_in (List.mem_of_getElem? (i := 994) (by decide +kernel)) rfl
theorem mw_995 : Cond.selects RJ4 yJ4_charAt_5068e yJ4_charAt_5068e ∈ lw_g := lw_in (List.mem_of_getElem? (i := 995) (by decide +kernel)) rfl
theorem kX11_176 : CallV RX11 176 yJ4_charAt_5068e iJ4_charAt_5068e 1 := ⟨mw_993, mw_994, mw_995, mw_88, mw_996, by decide +kernel, by decide⟩
theorem mw_307 : Cond.fieldLink RX11 180 "LockSimulator$World" "kinds" "[LLockSimulator$Kind;" ∈ lw_g := lw_in (List.mem_of_getElem? (i := 307) (by decide +kernel)) rfl
theorem fX11_180 : FldOK RX11 180 9 4 := ⟨RX10, TX10, 8, rfl, by decide, inG9, mw_307⟩
theorem mw_253 : Cond.fieldLink RX11 184 "LockSimulator$Kind" "epoch" "I" ∈ lw_g := lw_in (List.mem_of_getElem? (i := 253) (by decide +kernel)) rfl
theorem fX11_184 : FldOK RX11 184 2 0 := ⟨RX1, TX1, 3, rfl, by decide, inG2, mw_253⟩
theorem mw_256 : Cond.fieldLink RX11 189 "LockSimulator$Kind" "revocations" "I" ∈ lw_g := lw_in (List.mem_of_getElem? (i := 256) (by decide +kernel)) rfl
theorem fX11_189 : FldOK RX11 189 2 1 := ⟨RX1, TX1, 3, rfl, by decide, inG2, mw_256⟩
theorem mw_259 : Cond.fieldLink RX11 192 "LockSimulator$Kind" "biasable" "Z" ∈ lw_g := lw_in (List.mem_of_getElem? (i := 259) (by decide +kernel)) rfl
theorem fX11_192 : FldOK RX11 192 2 2 := ⟨RX1, TX1, 3, rfl, by decide, inG2, mw_259⟩
theorem mw_311 : Cond.fieldLink RX11 195 "LockSimulator$World" "now" "I" ∈ lw_g := lw_in (List.mem_of_getElem? (i := 311) (by decide +kernel)) rfl
theorem fX11_195 : FldOK RX11 195 9 6 := ⟨RX10, TX10, 8, rfl, by decide, inG9, mw_311⟩
theorem mw_301 : Cond.fieldLink RX11 200 "LockSimulator$World" "counts" "[I" ∈ lw_g := lw_in (List.mem_of_getElem? (i := 301) (by decide +kernel)) rfl
theorem fX11_200 : FldOK RX11 200 9 1 := ⟨RX10, TX10, 8, rfl, by decide, inG9, mw_301⟩
theorem mw_1030 : Cond.methodLink RX11 204 yX9_price ∈ lw_g := lw_in (List.mem_of_getElem? (i := 1030) (by decide +kernel)) rfl
theorem mw_99 : Cond.initialized RX9 ∈ lw_g := lw_in (List.mem_of_getElem? (i := 99) (by decide +kernel)) rfl
theorem mw_1032 : Cond.code yX9_price cX9_price 3 (some .int) ∈ lw_g := lw_in (List.mem_of_getElem? (i := 1032) (by decide +kernel)) rfl
theorem mw_1031 : Cond.static yX9_price ∈ lw_g := lw_in (List.mem_of_getElem? (i := 1031) (by decide +kernel)) rfl
theorem kX11_204 : CallS RX11 204 yX9_price iX9_price 1 := ⟨mw_1030, mw_1031, mw_99, mw_1032, by decide +kernel, by decide⟩
theorem mw_345 : Cond.fieldLink RX11 208 "LockSimulator$Journal" "size" "I" ∈ lw_g := lw_in (List.mem_of_getElem? (i := 345) (by decide +kernel)) rfl
theorem fX11_208 : FldOK RX11 208 1 4 := ⟨RX0, TX0, 5, rfl, by decide, inG1, mw_345⟩
theorem mw_1043 : Cond.methodLink RX11 211 yX11_costWith ∈ lw_g := lw_in (List.mem_of_getElem? (i := 1043) (by decide +kernel)) rfl
theorem mw_1046 : Cond.code yX11_costWith cX11_costWith 4 (some .int) ∈ lw_g := lw_in (List.mem_of_getElem? (i := 1046) (by decide +kernel)) rfl
theorem mw_1045 : Cond.instanceMethod yX11_costWith ∈ lw_g := lw_in (List.mem_of_getElem? (i := 1045) (by decide +kernel)) rfl
theorem mw_35 : Cond.selects RX11 yX11_costWith yX11_costWith ∈ lw_g := lw_in (List.mem_of_getElem? (i := 35) (by decide +kernel)) rfl
theorem kX11_211 : CallV RX11 211 yX11_costWith iX11_costWith 2 := ⟨mw_1043, mw_1045, mw_35, mw_76, mw_1046, by decide +kernel, by decide⟩
theorem mw_1055 : Cond.methodLink RX11 215 yX6_least ∈ lw_g := lw_in (List.mem_of_getElem? (i := 1055) (by decide +kernel)) rfl
theorem mw_1057 : Cond.code yX6_least cX6_least 1 (some .int) ∈ lw_g := lw_in (List.mem_of_getElem? (i := 1057) (by decide +kernel)) rfl
theorem mw_1056 : Cond.static yX6_least ∈ lw_g := lw_in (List.mem_of_getElem? (i := 1056) (by decide +kernel)) rfl
theorem kX11_215 : CallS RX11 215 yX6_least iX6_least 1 := ⟨mw_1055, mw_1056, mw_78, mw_1057, by decide +kernel, by decide⟩
theorem mw_1058 : Cond.methodLink RX11 218 yX6_greatest ∈ lw_g := lw_in (List.mem_of_getElem? (i := 1058) (by decide +kernel)) rfl
theorem mw_1060 : Cond.code yX6_greatest cX6_greatest 1 (some .int) ∈ lw_g := lw_in (List.mem_of_getElem? (i := 1060) (by decide +kernel)) rfl
theorem mw_1059 : Cond.static yX6_greatest ∈ lw_g := lw_in (List.mem_of_getElem? (i := 1059) (by decide +kernel)) rfl
theorem kX11_218 : CallS RX11 218 yX6_greatest iX6_greatest 1 := ⟨mw_1058, mw_1059, mw_78, mw_1060, by decide +kernel, by decide⟩
theorem fX11_16 : FldOK RX11 16 10 1 := ⟨RX11, TX11, 6, rfl, by decide, inG10, mw_433⟩
theorem mw_1047 : Cond.methodLink RX11 221 yX6_copyFrom ∈ lw_g := lw_in (List.mem_of_getElem? (i := 1047) (by decide +kernel)) rfl
theorem kX11_221 : CallV RX11 221 yX6_copyFrom iX6_copyFrom 1 := ⟨mw_1047, mw_1048, mw_1049, mw_78, mw_1050, by decide +kernel, by decide⟩
theorem mw_337 : Cond.fieldLink RX11 225 "LockSimulator$Journal" "operations" "[I" ∈ lw_g := lw_in (List.mem_of_getElem? (i := 337) (by decide +kernel)) rfl
theorem fX11_225 : FldOK RX11 225 1 0 := ⟨RX0, TX0, 5, rfl, by decide, inG1, mw_337⟩
theorem mw_339 : Cond.fieldLink RX11 228 "LockSimulator$Journal" "firsts" "[I" ∈ lw_g := lw_in (List.mem_of_getElem? (i := 339) (by decide +kernel)) rfl
theorem fX11_228 : FldOK RX11 228 1 1 := ⟨RX0, TX0, 5, rfl, by decide, inG1, mw_339⟩
theorem mw_341 : Cond.fieldLink RX11 231 "LockSimulator$Journal" "seconds" "[I" ∈ lw_g := lw_in (List.mem_of_getElem? (i := 341) (by decide +kernel)) rfl
theorem fX11_231 : FldOK RX11 231 1 2 := ⟨RX0, TX0, 5, rfl, by decide, inG1, mw_341⟩
theorem mw_343 : Cond.fieldLink RX11 234 "LockSimulator$Journal" "thirds" "[I" ∈ lw_g := lw_in (List.mem_of_getElem? (i := 343) (by decide +kernel)) rfl
theorem fX11_234 : FldOK RX11 234 1 3 := ⟨RX0, TX0, 5, rfl, by decide, inG1, mw_343⟩
theorem fX11_29 : FldOK RX11 29 10 3 := ⟨RX11, TX11, 6, rfl, by decide, inG10, mw_435⟩
theorem mw_1065 : Cond.methodLink RX11 237 yX5_append ∈ lw_g := lw_in (List.mem_of_getElem? (i := 1065) (by decide +kernel)) rfl
theorem mw_1068 : Cond.code yX5_append cX5_append 2 (some .boolean) ∈ lw_g := lw_in (List.mem_of_getElem? (i := 1068) (by decide +kernel)) rfl
theorem mw_1066 : Cond.instanceMethod yX5_append ∈ lw_g := lw_in (List.mem_of_getElem? (i := 1066) (by decide +kernel)) rfl
theorem mw_1067 : Cond.selects RX5 yX5_append yX5_append ∈ lw_g := lw_in (List.mem_of_getElem? (i := 1067) (by decide +kernel)) rfl
theorem kX11_237 : CallV RX11 237 yX5_append iX5_append 1 := ⟨mw_1065, mw_1066, mw_1067, mw_86, mw_1068, by decide +kernel, by decide⟩
theorem mw_367 : Cond.fieldLink RX11 240 "LockSimulator$Script" "length" "I" ∈ lw_g := lw_in (List.mem_of_getElem? (i := 367) (by decide +kernel)) rfl
theorem fX11_240 : FldOK RX11 240 5 3 := ⟨RX5, TX5, 4, rfl, by decide, inG5, mw_367⟩
theorem pX11_240 : PutOK RX11 240 5 3 .int false := ⟨RX5, TX5, 4, tyX5, rfl, by decide, inG5, mw_367, tyX5_ok, nmX5, rfl, by decide +kernel, fun h => by cases h⟩
theorem mw_1077 : Cond.methodLink RX11 242 yX5_faultyItem ∈ lw_g := lw_in (List.mem_of_getElem? (i := 1077) (by decide +kernel)) rfl
theorem mw_1080 : Cond.code yX5_faultyItem cX5_faultyItem 4 (some .int) ∈ lw_g := lw_in (List.mem_of_getElem? (i := 1080) (by decide +kernel)) rfl
theorem mw_1078 : Cond.instanceMethod yX5_faultyItem ∈ lw_g := lw_in (List.mem_of_getElem? (i := 1078) (by decide +kernel)) rfl
theorem mw_1079 : Cond.selects RX5 yX5_faultyItem yX5_faultyItem ∈ lw_g := lw_in (List.mem_of_getElem? (i := 1079) (by decide +kernel)) rfl
theorem kX11_242 : CallV RX11 242 yX5_faultyItem iX5_faultyItem 0 := ⟨mw_1077, mw_1078, mw_1079, mw_86, mw_1080, by decide +kernel, by decide⟩
theorem mw_1144 : Cond.methodLink RX11 245 yX5_endOfItem ∈ lw_g := lw_in (List.mem_of_getElem? (i := 1144) (by decide +kernel)) rfl
theorem kX11_245 : CallV RX11 245 yX5_endOfItem iX5_endOfItem 1 := ⟨mw_1144, mw_1082, mw_1083, mw_86, mw_1084, by decide +kernel, by decide⟩
theorem mw_1145 : Cond.methodLink RX11 248 yX5_readItem ∈ lw_g := lw_in (List.mem_of_getElem? (i := 1145) (by decide +kernel)) rfl
theorem kX11_248 : CallV RX11 248 yX5_readItem iX5_readItem 2 := ⟨mw_1145, mw_1087, mw_1088, mw_86, mw_1089, by decide +kernel, by decide⟩
theorem mw_1146 : Cond.methodLink RX11 251 yX5_argument ∈ lw_g := lw_in (List.mem_of_getElem? (i := 1146) (by decide +kernel)) rfl
theorem mw_1149 : Cond.code yX5_argument cX5_argument 2 (some .int) ∈ lw_g := lw_in (List.mem_of_getElem? (i := 1149) (by decide +kernel)) rfl
theorem mw_1147 : Cond.instanceMethod yX5_argument ∈ lw_g := lw_in (List.mem_of_getElem? (i := 1147) (by decide +kernel)) rfl
theorem mw_1148 : Cond.selects RX5 yX5_argument yX5_argument ∈ lw_g := lw_in (List.mem_of_getElem? (i := 1148) (by decide +kernel)) rfl
theorem kX11_251 : CallV RX11 251 yX5_argument iX5_argument 1 := ⟨mw_1146, mw_1147, mw_1148, mw_86, mw_1149, by decide +kernel, by decide⟩
theorem mw_421 : Cond.fieldLink RX11 254 "LockSimulator$Slot" "world" "LLockSimulator$World;" ∈ lw_g := lw_in (List.mem_of_getElem? (i := 421) (by decide +kernel)) rfl
theorem fX11_254 : FldOK RX11 254 7 0 := ⟨RX7, TX7, 3, rfl, by decide, inG7, mw_421⟩
theorem mw_1154 : Cond.methodLink RX11 255 yX10_copyFrom ∈ lw_g := lw_in (List.mem_of_getElem? (i := 1154) (by decide +kernel)) rfl
theorem mw_1157 : Cond.code yX10_copyFrom cX10_copyFrom 3 none ∈ lw_g := lw_in (List.mem_of_getElem? (i := 1157) (by decide +kernel)) rfl
theorem mw_1155 : Cond.instanceMethod yX10_copyFrom ∈ lw_g := lw_in (List.mem_of_getElem? (i := 1155) (by decide +kernel)) rfl
theorem mw_1156 : Cond.selects RX10 yX10_copyFrom yX10_copyFrom ∈ lw_g := lw_in (List.mem_of_getElem? (i := 1156) (by decide +kernel)) rfl
theorem kX11_255 : CallV RX11 255 yX10_copyFrom iX10_copyFrom 1 := ⟨mw_1154, mw_1155, mw_1156, mw_77, mw_1157, by decide +kernel, by decide⟩
theorem mw_423 : Cond.fieldLink RX11 258 "LockSimulator$Slot" "journal" "LLockSimulator$Journal;" ∈ lw_g := lw_in (List.mem_of_getElem? (i := 423) (by decide +kernel)) rfl
theorem fX11_258 : FldOK RX11 258 7 1 := ⟨RX7, TX7, 3, rfl, by decide, inG7, mw_423⟩
theorem mw_1177 : Cond.methodLink RX11 259 yX0_copyFrom ∈ lw_g := lw_in (List.mem_of_getElem? (i := 1177) (by decide +kernel)) rfl
theorem mw_1180 : Cond.code yX0_copyFrom cX0_copyFrom 2 none ∈ lw_g := lw_in (List.mem_of_getElem? (i := 1180) (by decide +kernel)) rfl
theorem mw_1178 : Cond.instanceMethod yX0_copyFrom ∈ lw_g := lw_in (List.mem_of_getElem? (i := 1178) (by decide +kernel)) rfl
theorem mw_1179 : Cond.selects RX0 yX0_copyFrom yX0_copyFrom ∈ lw_g := lw_in (List.mem_of_getElem? (i := 1179) (by decide +kernel)) rfl
theorem kX11_259 : CallV RX11 259 yX0_copyFrom iX0_copyFrom 1 := ⟨mw_1177, mw_1178, mw_1179, mw_85, mw_1180, by decide +kernel, by decide⟩
theorem mw_424 : Cond.fieldLink RX11 262 "LockSimulator$Slot" "used" "Z" ∈ lw_g := lw_in (List.mem_of_getElem? (i := 424) (by decide +kernel)) rfl
theorem pX11_262 : PutOK RX11 262 7 2 .boolean false := ⟨RX7, TX7, 3, tyX7, rfl, by decide, inG7, mw_424, tyX7_ok, nmX7, rfl, by decide +kernel, fun h => by cases h⟩
theorem fX11_262 : FldOK RX11 262 7 2 := ⟨RX7, TX7, 3, rfl, by decide, inG7, mw_424⟩
theorem kX12_1 : Cond.methodLink RX12 1 objectInit ∈ lw_g := lw_in (List.mem_of_getElem? (i := 1191) (by decide +kernel)) rfl
theorem mw_1196 : Cond.fieldLink RX12 7 "LockSimulatorModel" "w" "[I" ∈ lw_g := lw_in (List.mem_of_getElem? (i := 1196) (by decide +kernel)) rfl
theorem pX12_7 : PutOK RX12 7 11 0 (.array .int) true := ⟨RX12, TX12, 12, tyX12, rfl, by decide, inG11, mw_1196, tyX12_ok, nmX12, rfl, by decide +kernel, fun _ => rfl⟩
theorem mw_1197 : Cond.fieldLink RX12 13 "LockSimulatorModel" "aside" "[I" ∈ lw_g := lw_in (List.mem_of_getElem? (i := 1197) (by decide +kernel)) rfl
theorem pX12_13 : PutOK RX12 13 11 1 (.array .int) true := ⟨RX12, TX12, 12, tyX12, rfl, by decide, inG11, mw_1197, tyX12_ok, nmX12, rfl, by decide +kernel, fun _ => rfl⟩
theorem mw_1198 : Cond.fieldLink RX12 16 "LockSimulatorModel" "kept" "[I" ∈ lw_g := lw_in (List.mem_of_getElem? (i := 1198) (by decide +kernel)) rfl
theorem pX12_16 : PutOK RX12 16 11 2 (.array .int) true := ⟨RX12, TX12, 12, tyX12, rfl, by decide, inG11, mw_1198, tyX12_ok, nmX12, rfl, by decide +kernel, fun _ => rfl⟩
theorem mw_1199 : Cond.fieldLink RX12 19 "LockSimulatorModel" "slots" "[I" ∈ lw_g := lw_in (List.mem_of_getElem? (i := 1199) (by decide +kernel)) rfl
theorem pX12_19 : PutOK RX12 19 11 3 (.array .int) true := ⟨RX12, TX12, 12, tyX12, rfl, by decide, inG11, mw_1199, tyX12_ok, nmX12, rfl, by decide +kernel, fun _ => rfl⟩
theorem mw_1201 : Cond.fieldLink RX12 22 "LockSimulatorModel" "text" "[I" ∈ lw_g := lw_in (List.mem_of_getElem? (i := 1201) (by decide +kernel)) rfl
theorem pX12_22 : PutOK RX12 22 11 5 (.array .int) true := ⟨RX12, TX12, 12, tyX12, rfl, by decide, inG11, mw_1201, tyX12_ok, nmX12, rfl, by decide +kernel, fun _ => rfl⟩
theorem mw_1203 : Cond.fieldLink RX12 25 "LockSimulatorModel" "made" "[I" ∈ lw_g := lw_in (List.mem_of_getElem? (i := 1203) (by decide +kernel)) rfl
theorem pX12_25 : PutOK RX12 25 11 7 (.array .int) true := ⟨RX12, TX12, 12, tyX12, rfl, by decide, inG11, mw_1203, tyX12_ok, nmX12, rfl, by decide +kernel, fun _ => rfl⟩
theorem mw_1205 : Cond.fieldLink RX12 28 "LockSimulatorModel" "items" "[I" ∈ lw_g := lw_in (List.mem_of_getElem? (i := 1205) (by decide +kernel)) rfl
theorem pX12_28 : PutOK RX12 28 11 9 (.array .int) true := ⟨RX12, TX12, 12, tyX12, rfl, by decide, inG11, mw_1205, tyX12_ok, nmX12, rfl, by decide +kernel, fun _ => rfl⟩
theorem fX12_7 : FldOK RX12 7 11 0 := ⟨RX12, TX12, 12, rfl, by decide, inG11, mw_1196⟩
theorem mw_1192 : Cond.methodLink RX12 31 yX12_begin ∈ lw_g := lw_in (List.mem_of_getElem? (i := 1192) (by decide +kernel)) rfl
theorem mw_92 : Cond.initialized RX12 ∈ lw_g := lw_in (List.mem_of_getElem? (i := 92) (by decide +kernel)) rfl
theorem mw_1195 : Cond.code yX12_begin cX12_begin 3 none ∈ lw_g := lw_in (List.mem_of_getElem? (i := 1195) (by decide +kernel)) rfl
theorem mw_1194 : Cond.instanceMethod yX12_begin ∈ lw_g := lw_in (List.mem_of_getElem? (i := 1194) (by decide +kernel)) rfl
theorem mw_40 : Cond.selects RX12 yX12_begin yX12_begin ∈ lw_g := lw_in (List.mem_of_getElem? (i := 40) (by decide +kernel)) rfl
theorem kX12_31 : CallV RX12 31 yX12_begin iX12_begin 1 := ⟨mw_1192, mw_1194, mw_40, mw_92, mw_1195, by decide +kernel, by decide⟩
theorem mw_1237 : Cond.methodLink RX12 35 yX12_isIn ∈ lw_g := lw_in (List.mem_of_getElem? (i := 1237) (by decide +kernel)) rfl
theorem mw_1239 : Cond.code yX12_isIn cX12_isIn 3 (some .boolean) ∈ lw_g := lw_in (List.mem_of_getElem? (i := 1239) (by decide +kernel)) rfl
theorem mw_1238 : Cond.static yX12_isIn ∈ lw_g := lw_in (List.mem_of_getElem? (i := 1238) (by decide +kernel)) rfl
theorem kX12_35 : CallS RX12 35 yX12_isIn iX12_isIn 3 := ⟨mw_1237, mw_1238, mw_92, mw_1239, by decide +kernel, by decide⟩
theorem mw_1247 : Cond.methodLink RX12 39 yX12_least ∈ lw_g := lw_in (List.mem_of_getElem? (i := 1247) (by decide +kernel)) rfl
theorem mw_1249 : Cond.code yX12_least cX12_least 1 (some .int) ∈ lw_g := lw_in (List.mem_of_getElem? (i := 1249) (by decide +kernel)) rfl
theorem mw_1248 : Cond.static yX12_least ∈ lw_g := lw_in (List.mem_of_getElem? (i := 1248) (by decide +kernel)) rfl
theorem kX12_39 : CallS RX12 39 yX12_least iX12_least 1 := ⟨mw_1247, mw_1248, mw_92, mw_1249, by decide +kernel, by decide⟩
theorem mw_1250 : Cond.methodLink RX12 43 yX12_most ∈ lw_g := lw_in (List.mem_of_getElem? (i := 1250) (by decide +kernel)) rfl
theorem mw_1252 : Cond.code yX12_most cX12_most 1 (some .int) ∈ lw_g := lw_in (List.mem_of_getElem? (i := 1252) (by decide +kernel)) rfl
theorem mw_1251 : Cond.static yX12_most ∈ lw_g := lw_in (List.mem_of_getElem? (i := 1251) (by decide +kernel)) rfl
theorem kX12_43 : CallS RX12 43 yX12_most iX12_most 1 := ⟨mw_1250, mw_1251, mw_92, mw_1252, by decide +kernel, by decide⟩
theorem mw_1244 : Cond.methodLink RX12 46 yX12_isValue ∈ lw_g := lw_in (List.mem_of_getElem? (i := 1244) (by decide +kernel)) rfl
theorem mw_1246 : Cond.code yX12_isValue cX12_isValue 2 (some .boolean) ∈ lw_g := lw_in (List.mem_of_getElem? (i := 1246) (by decide +kernel)) rfl
theorem mw_1245 : Cond.static yX12_isValue ∈ lw_g := lw_in (List.mem_of_getElem? (i := 1245) (by decide +kernel)) rfl
theorem kX12_46 : CallS RX12 46 yX12_isValue iX12_isValue 2 := ⟨mw_1244, mw_1245, mw_92, mw_1246, by decide +kernel, by decide⟩
theorem mw_1253 : Cond.methodLink RX12 50 yX12_monitors ∈ lw_g := lw_in (List.mem_of_getElem? (i := 1253) (by decide +kernel)) rfl
theorem mw_1256 : Cond.code yX12_monitors cX12_monitors 3 (some .int) ∈ lw_g := lw_in (List.mem_of_getElem? (i := 1256) (by decide +kernel)) rfl
theorem mw_1254 : Cond.instanceMethod yX12_monitors ∈ lw_g := lw_in (List.mem_of_getElem? (i := 1254) (by decide +kernel)) rfl
theorem mw_1255 : Cond.selects RX12 yX12_monitors yX12_monitors ∈ lw_g := lw_in (List.mem_of_getElem? (i := 1255) (by decide +kernel)) rfl
theorem kX12_50 : CallV RX12 50 yX12_monitors iX12_monitors 0 := ⟨mw_1253, mw_1254, mw_1255, mw_92, mw_1256, by decide +kernel, by decide⟩
theorem mw_1277 : Cond.methodLink RX12 54 yX12_isHeld ∈ lw_g := lw_in (List.mem_of_getElem? (i := 1277) (by decide +kernel)) rfl
theorem mw_1280 : Cond.code yX12_isHeld cX12_isHeld 2 (some .boolean) ∈ lw_g := lw_in (List.mem_of_getElem? (i := 1280) (by decide +kernel)) rfl
theorem mw_1279 : Cond.instanceMethod yX12_isHeld ∈ lw_g := lw_in (List.mem_of_getElem? (i := 1279) (by decide +kernel)) rfl
theorem mw_43 : Cond.selects RX12 yX12_isHeld yX12_isHeld ∈ lw_g := lw_in (List.mem_of_getElem? (i := 43) (by decide +kernel)) rfl
theorem kX12_54 : CallV RX12 54 yX12_isHeld iX12_isHeld 1 := ⟨mw_1277, mw_1279, mw_43, mw_92, mw_1280, by decide +kernel, by decide⟩
theorem mw_1285 : Cond.methodLink RX12 58 yX12_isIdle ∈ lw_g := lw_in (List.mem_of_getElem? (i := 1285) (by decide +kernel)) rfl
theorem mw_1288 : Cond.code yX12_isIdle cX12_isIdle 2 (some .boolean) ∈ lw_g := lw_in (List.mem_of_getElem? (i := 1288) (by decide +kernel)) rfl
theorem mw_1287 : Cond.instanceMethod yX12_isIdle ∈ lw_g := lw_in (List.mem_of_getElem? (i := 1287) (by decide +kernel)) rfl
theorem mw_45 : Cond.selects RX12 yX12_isIdle yX12_isIdle ∈ lw_g := lw_in (List.mem_of_getElem? (i := 45) (by decide +kernel)) rfl
theorem kX12_58 : CallV RX12 58 yX12_isIdle iX12_isIdle 1 := ⟨mw_1285, mw_1287, mw_45, mw_92, mw_1288, by decide +kernel, by decide⟩
theorem mw_1289 : Cond.methodLink RX12 61 yX12_deflate ∈ lw_g := lw_in (List.mem_of_getElem? (i := 1289) (by decide +kernel)) rfl
theorem mw_1292 : Cond.code yX12_deflate cX12_deflate 2 none ∈ lw_g := lw_in (List.mem_of_getElem? (i := 1292) (by decide +kernel)) rfl
theorem mw_1291 : Cond.instanceMethod yX12_deflate ∈ lw_g := lw_in (List.mem_of_getElem? (i := 1291) (by decide +kernel)) rfl
theorem mw_46 : Cond.selects RX12 yX12_deflate yX12_deflate ∈ lw_g := lw_in (List.mem_of_getElem? (i := 46) (by decide +kernel)) rfl
theorem kX12_61 : CallV RX12 61 yX12_deflate iX12_deflate 1 := ⟨mw_1289, mw_1291, mw_46, mw_92, mw_1292, by decide +kernel, by decide⟩
theorem mw_1341 : Cond.methodLink RX12 64 yX12_takeOut ∈ lw_g := lw_in (List.mem_of_getElem? (i := 1341) (by decide +kernel)) rfl
theorem mw_1344 : Cond.code yX12_takeOut cX12_takeOut 7 none ∈ lw_g := lw_in (List.mem_of_getElem? (i := 1344) (by decide +kernel)) rfl
theorem mw_1343 : Cond.instanceMethod yX12_takeOut ∈ lw_g := lw_in (List.mem_of_getElem? (i := 1343) (by decide +kernel)) rfl
theorem mw_58 : Cond.selects RX12 yX12_takeOut yX12_takeOut ∈ lw_g := lw_in (List.mem_of_getElem? (i := 58) (by decide +kernel)) rfl
theorem kX12_64 : CallV RX12 64 yX12_takeOut iX12_takeOut 3 := ⟨mw_1341, mw_1343, mw_58, mw_92, mw_1344, by decide +kernel, by decide⟩
theorem mw_1357 : Cond.methodLink RX12 68 yX12_queueFirst ∈ lw_g := lw_in (List.mem_of_getElem? (i := 1357) (by decide +kernel)) rfl
theorem mw_1360 : Cond.code yX12_queueFirst cX12_queueFirst 4 none ∈ lw_g := lw_in (List.mem_of_getElem? (i := 1360) (by decide +kernel)) rfl
theorem mw_1359 : Cond.instanceMethod yX12_queueFirst ∈ lw_g := lw_in (List.mem_of_getElem? (i := 1359) (by decide +kernel)) rfl
theorem mw_60 : Cond.selects RX12 yX12_queueFirst yX12_queueFirst ∈ lw_g := lw_in (List.mem_of_getElem? (i := 60) (by decide +kernel)) rfl
theorem kX12_68 : CallV RX12 68 yX12_queueFirst iX12_queueFirst 2 := ⟨mw_1357, mw_1359, mw_60, mw_92, mw_1360, by decide +kernel, by decide⟩
theorem mw_1317 : Cond.methodLink RX12 72 yX12_queueUp ∈ lw_g := lw_in (List.mem_of_getElem? (i := 1317) (by decide +kernel)) rfl
theorem mw_1320 : Cond.code yX12_queueUp cX12_queueUp 3 none ∈ lw_g := lw_in (List.mem_of_getElem? (i := 1320) (by decide +kernel)) rfl
theorem mw_1319 : Cond.instanceMethod yX12_queueUp ∈ lw_g := lw_in (List.mem_of_getElem? (i := 1319) (by decide +kernel)) rfl
theorem mw_53 : Cond.selects RX12 yX12_queueUp yX12_queueUp ∈ lw_g := lw_in (List.mem_of_getElem? (i := 53) (by decide +kernel)) rfl
theorem kX12_72 : CallV RX12 72 yX12_queueUp iX12_queueUp 2 := ⟨mw_1317, mw_1319, mw_53, mw_92, mw_1320, by decide +kernel, by decide⟩
theorem mw_1297 : Cond.methodLink RX12 75 yX12_hold ∈ lw_g := lw_in (List.mem_of_getElem? (i := 1297) (by decide +kernel)) rfl
theorem mw_1300 : Cond.code yX12_hold cX12_hold 4 none ∈ lw_g := lw_in (List.mem_of_getElem? (i := 1300) (by decide +kernel)) rfl
theorem mw_1299 : Cond.instanceMethod yX12_hold ∈ lw_g := lw_in (List.mem_of_getElem? (i := 1299) (by decide +kernel)) rfl
theorem mw_48 : Cond.selects RX12 yX12_hold yX12_hold ∈ lw_g := lw_in (List.mem_of_getElem? (i := 48) (by decide +kernel)) rfl
theorem kX12_75 : CallV RX12 75 yX12_hold iX12_hold 3 := ⟨mw_1297, mw_1299, mw_48, mw_92, mw_1300, by decide +kernel, by decide⟩
theorem mw_1337 : Cond.methodLink RX12 78 yX12_acquire ∈ lw_g := lw_in (List.mem_of_getElem? (i := 1337) (by decide +kernel)) rfl
theorem mw_1340 : Cond.code yX12_acquire cX12_acquire 3 none ∈ lw_g := lw_in (List.mem_of_getElem? (i := 1340) (by decide +kernel)) rfl
theorem mw_1339 : Cond.instanceMethod yX12_acquire ∈ lw_g := lw_in (List.mem_of_getElem? (i := 1339) (by decide +kernel)) rfl
theorem mw_57 : Cond.selects RX12 yX12_acquire yX12_acquire ∈ lw_g := lw_in (List.mem_of_getElem? (i := 57) (by decide +kernel)) rfl
theorem kX12_78 : CallV RX12 78 yX12_acquire iX12_acquire 1 := ⟨mw_1337, mw_1339, mw_57, mw_92, mw_1340, by decide +kernel, by decide⟩
theorem mw_1309 : Cond.methodLink RX12 81 yX12_unbias ∈ lw_g := lw_in (List.mem_of_getElem? (i := 1309) (by decide +kernel)) rfl
theorem mw_1312 : Cond.code yX12_unbias cX12_unbias 2 none ∈ lw_g := lw_in (List.mem_of_getElem? (i := 1312) (by decide +kernel)) rfl
theorem mw_1311 : Cond.instanceMethod yX12_unbias ∈ lw_g := lw_in (List.mem_of_getElem? (i := 1311) (by decide +kernel)) rfl
theorem mw_51 : Cond.selects RX12 yX12_unbias yX12_unbias ∈ lw_g := lw_in (List.mem_of_getElem? (i := 51) (by decide +kernel)) rfl
theorem kX12_81 : CallV RX12 81 yX12_unbias iX12_unbias 1 := ⟨mw_1309, mw_1311, mw_51, mw_92, mw_1312, by decide +kernel, by decide⟩
theorem mw_1301 : Cond.methodLink RX12 84 yX12_isValid ∈ lw_g := lw_in (List.mem_of_getElem? (i := 1301) (by decide +kernel)) rfl
theorem mw_1304 : Cond.code yX12_isValid cX12_isValid 2 (some .boolean) ∈ lw_g := lw_in (List.mem_of_getElem? (i := 1304) (by decide +kernel)) rfl
theorem mw_1303 : Cond.instanceMethod yX12_isValid ∈ lw_g := lw_in (List.mem_of_getElem? (i := 1303) (by decide +kernel)) rfl
theorem mw_49 : Cond.selects RX12 yX12_isValid yX12_isValid ∈ lw_g := lw_in (List.mem_of_getElem? (i := 49) (by decide +kernel)) rfl
theorem kX12_84 : CallV RX12 84 yX12_isValid iX12_isValid 1 := ⟨mw_1301, mw_1303, mw_49, mw_92, mw_1304, by decide +kernel, by decide⟩
theorem mw_1293 : Cond.methodLink RX12 87 yX12_biased ∈ lw_g := lw_in (List.mem_of_getElem? (i := 1293) (by decide +kernel)) rfl
theorem mw_1296 : Cond.code yX12_biased cX12_biased 4 (some .int) ∈ lw_g := lw_in (List.mem_of_getElem? (i := 1296) (by decide +kernel)) rfl
theorem mw_1295 : Cond.instanceMethod yX12_biased ∈ lw_g := lw_in (List.mem_of_getElem? (i := 1295) (by decide +kernel)) rfl
theorem mw_47 : Cond.selects RX12 yX12_biased yX12_biased ∈ lw_g := lw_in (List.mem_of_getElem? (i := 47) (by decide +kernel)) rfl
theorem kX12_87 : CallV RX12 87 yX12_biased iX12_biased 3 := ⟨mw_1293, mw_1295, mw_47, mw_92, mw_1296, by decide +kernel, by decide⟩
theorem mw_1281 : Cond.methodLink RX12 91 yX12_inflates ∈ lw_g := lw_in (List.mem_of_getElem? (i := 1281) (by decide +kernel)) rfl
theorem mw_1284 : Cond.code yX12_inflates cX12_inflates 4 (some .boolean) ∈ lw_g := lw_in (List.mem_of_getElem? (i := 1284) (by decide +kernel)) rfl
theorem mw_1283 : Cond.instanceMethod yX12_inflates ∈ lw_g := lw_in (List.mem_of_getElem? (i := 1283) (by decide +kernel)) rfl
theorem mw_44 : Cond.selects RX12 yX12_inflates yX12_inflates ∈ lw_g := lw_in (List.mem_of_getElem? (i := 44) (by decide +kernel)) rfl
theorem kX12_91 : CallV RX12 91 yX12_inflates iX12_inflates 1 := ⟨mw_1281, mw_1283, mw_44, mw_92, mw_1284, by decide +kernel, by decide⟩
theorem mw_1305 : Cond.methodLink RX12 94 yX12_revoke ∈ lw_g := lw_in (List.mem_of_getElem? (i := 1305) (by decide +kernel)) rfl
theorem mw_1308 : Cond.code yX12_revoke cX12_revoke 4 none ∈ lw_g := lw_in (List.mem_of_getElem? (i := 1308) (by decide +kernel)) rfl
theorem mw_1307 : Cond.instanceMethod yX12_revoke ∈ lw_g := lw_in (List.mem_of_getElem? (i := 1307) (by decide +kernel)) rfl
theorem mw_50 : Cond.selects RX12 yX12_revoke yX12_revoke ∈ lw_g := lw_in (List.mem_of_getElem? (i := 50) (by decide +kernel)) rfl
theorem kX12_94 : CallV RX12 94 yX12_revoke iX12_revoke 1 := ⟨mw_1305, mw_1307, mw_50, mw_92, mw_1308, by decide +kernel, by decide⟩
theorem mw_1313 : Cond.methodLink RX12 97 yX12_entered ∈ lw_g := lw_in (List.mem_of_getElem? (i := 1313) (by decide +kernel)) rfl
theorem mw_1316 : Cond.code yX12_entered cX12_entered 3 (some .int) ∈ lw_g := lw_in (List.mem_of_getElem? (i := 1316) (by decide +kernel)) rfl
theorem mw_1315 : Cond.instanceMethod yX12_entered ∈ lw_g := lw_in (List.mem_of_getElem? (i := 1315) (by decide +kernel)) rfl
theorem mw_52 : Cond.selects RX12 yX12_entered yX12_entered ∈ lw_g := lw_in (List.mem_of_getElem? (i := 52) (by decide +kernel)) rfl
theorem kX12_97 : CallV RX12 97 yX12_entered iX12_entered 2 := ⟨mw_1313, mw_1315, mw_52, mw_92, mw_1316, by decide +kernel, by decide⟩
theorem mw_1266 : Cond.methodLink RX12 101 yX12_isThread ∈ lw_g := lw_in (List.mem_of_getElem? (i := 1266) (by decide +kernel)) rfl
theorem mw_1269 : Cond.code yX12_isThread cX12_isThread 2 (some .boolean) ∈ lw_g := lw_in (List.mem_of_getElem? (i := 1269) (by decide +kernel)) rfl
theorem mw_1268 : Cond.instanceMethod yX12_isThread ∈ lw_g := lw_in (List.mem_of_getElem? (i := 1268) (by decide +kernel)) rfl
theorem mw_41 : Cond.selects RX12 yX12_isThread yX12_isThread ∈ lw_g := lw_in (List.mem_of_getElem? (i := 41) (by decide +kernel)) rfl
theorem kX12_101 : CallV RX12 101 yX12_isThread iX12_isThread 1 := ⟨mw_1266, mw_1268, mw_41, mw_92, mw_1269, by decide +kernel, by decide⟩
theorem mw_1270 : Cond.methodLink RX12 104 yX12_isObject ∈ lw_g := lw_in (List.mem_of_getElem? (i := 1270) (by decide +kernel)) rfl
theorem mw_1272 : Cond.code yX12_isObject cX12_isObject 1 (some .boolean) ∈ lw_g := lw_in (List.mem_of_getElem? (i := 1272) (by decide +kernel)) rfl
theorem mw_1271 : Cond.static yX12_isObject ∈ lw_g := lw_in (List.mem_of_getElem? (i := 1271) (by decide +kernel)) rfl
theorem kX12_104 : CallS RX12 104 yX12_isObject iX12_isObject 1 := ⟨mw_1270, mw_1271, mw_92, mw_1272, by decide +kernel, by decide⟩
theorem fX12_13 : FldOK RX12 13 11 1 := ⟨RX12, TX12, 12, rfl, by decide, inG11, mw_1197⟩
theorem mw_1273 : Cond.methodLink RX12 107 yX12_entering ∈ lw_g := lw_in (List.mem_of_getElem? (i := 1273) (by decide +kernel)) rfl
theorem mw_1276 : Cond.code yX12_entering cX12_entering 3 (some .int) ∈ lw_g := lw_in (List.mem_of_getElem? (i := 1276) (by decide +kernel)) rfl
theorem mw_1275 : Cond.instanceMethod yX12_entering ∈ lw_g := lw_in (List.mem_of_getElem? (i := 1275) (by decide +kernel)) rfl
theorem mw_42 : Cond.selects RX12 yX12_entering yX12_entering ∈ lw_g := lw_in (List.mem_of_getElem? (i := 42) (by decide +kernel)) rfl
theorem kX12_107 : CallV RX12 107 yX12_entering iX12_entering 2 := ⟨mw_1273, mw_1275, mw_42, mw_92, mw_1276, by decide +kernel, by decide⟩
theorem mw_1321 : Cond.methodLink RX12 110 yX12_record ∈ lw_g := lw_in (List.mem_of_getElem? (i := 1321) (by decide +kernel)) rfl
theorem mw_1324 : Cond.code yX12_record cX12_record 6 none ∈ lw_g := lw_in (List.mem_of_getElem? (i := 1324) (by decide +kernel)) rfl
theorem mw_1323 : Cond.instanceMethod yX12_record ∈ lw_g := lw_in (List.mem_of_getElem? (i := 1323) (by decide +kernel)) rfl
theorem mw_54 : Cond.selects RX12 yX12_record yX12_record ∈ lw_g := lw_in (List.mem_of_getElem? (i := 54) (by decide +kernel)) rfl
theorem kX12_110 : CallV RX12 110 yX12_record iX12_record 4 := ⟨mw_1321, mw_1323, mw_54, mw_92, mw_1324, by decide +kernel, by decide⟩
theorem mw_1329 : Cond.methodLink RX12 114 yX12_forbidden ∈ lw_g := lw_in (List.mem_of_getElem? (i := 1329) (by decide +kernel)) rfl
theorem mw_1332 : Cond.code yX12_forbidden cX12_forbidden 3 (some .int) ∈ lw_g := lw_in (List.mem_of_getElem? (i := 1332) (by decide +kernel)) rfl
theorem mw_1331 : Cond.instanceMethod yX12_forbidden ∈ lw_g := lw_in (List.mem_of_getElem? (i := 1331) (by decide +kernel)) rfl
theorem mw_55 : Cond.selects RX12 yX12_forbidden yX12_forbidden ∈ lw_g := lw_in (List.mem_of_getElem? (i := 55) (by decide +kernel)) rfl
theorem kX12_114 : CallV RX12 114 yX12_forbidden iX12_forbidden 2 := ⟨mw_1329, mw_1331, mw_55, mw_92, mw_1332, by decide +kernel, by decide⟩
theorem mw_1333 : Cond.methodLink RX12 117 yX12_release ∈ lw_g := lw_in (List.mem_of_getElem? (i := 1333) (by decide +kernel)) rfl
theorem mw_1336 : Cond.code yX12_release cX12_release 2 none ∈ lw_g := lw_in (List.mem_of_getElem? (i := 1336) (by decide +kernel)) rfl
theorem mw_1335 : Cond.instanceMethod yX12_release ∈ lw_g := lw_in (List.mem_of_getElem? (i := 1335) (by decide +kernel)) rfl
theorem mw_56 : Cond.selects RX12 yX12_release yX12_release ∈ lw_g := lw_in (List.mem_of_getElem? (i := 56) (by decide +kernel)) rfl
theorem kX12_117 : CallV RX12 117 yX12_release iX12_release 1 := ⟨mw_1333, mw_1335, mw_56, mw_92, mw_1336, by decide +kernel, by decide⟩
theorem mw_1353 : Cond.methodLink RX12 120 yX12_endWait ∈ lw_g := lw_in (List.mem_of_getElem? (i := 1353) (by decide +kernel)) rfl
theorem mw_1356 : Cond.code yX12_endWait cX12_endWait 5 none ∈ lw_g := lw_in (List.mem_of_getElem? (i := 1356) (by decide +kernel)) rfl
theorem mw_1355 : Cond.instanceMethod yX12_endWait ∈ lw_g := lw_in (List.mem_of_getElem? (i := 1355) (by decide +kernel)) rfl
theorem mw_59 : Cond.selects RX12 yX12_endWait yX12_endWait ∈ lw_g := lw_in (List.mem_of_getElem? (i := 59) (by decide +kernel)) rfl
theorem kX12_120 : CallV RX12 120 yX12_endWait iX12_endWait 3 := ⟨mw_1353, mw_1355, mw_59, mw_92, mw_1356, by decide +kernel, by decide⟩
theorem mw_1385 : Cond.methodLink RX12 124 yX12_tickOnce ∈ lw_g := lw_in (List.mem_of_getElem? (i := 1385) (by decide +kernel)) rfl
theorem mw_1388 : Cond.code yX12_tickOnce cX12_tickOnce 2 none ∈ lw_g := lw_in (List.mem_of_getElem? (i := 1388) (by decide +kernel)) rfl
theorem mw_1387 : Cond.instanceMethod yX12_tickOnce ∈ lw_g := lw_in (List.mem_of_getElem? (i := 1387) (by decide +kernel)) rfl
theorem mw_61 : Cond.selects RX12 yX12_tickOnce yX12_tickOnce ∈ lw_g := lw_in (List.mem_of_getElem? (i := 61) (by decide +kernel)) rfl
theorem kX12_124 : CallV RX12 124 yX12_tickOnce iX12_tickOnce 0 := ⟨mw_1385, mw_1387, mw_61, mw_92, mw_1388, by decide +kernel, by decide⟩
theorem mw_1413 : Cond.methodLink RX12 127 yX12_waitsFor ∈ lw_g := lw_in (List.mem_of_getElem? (i := 1413) (by decide +kernel)) rfl
theorem mw_1416 : Cond.code yX12_waitsFor cX12_waitsFor 2 (some .int) ∈ lw_g := lw_in (List.mem_of_getElem? (i := 1416) (by decide +kernel)) rfl
theorem mw_1415 : Cond.instanceMethod yX12_waitsFor ∈ lw_g := lw_in (List.mem_of_getElem? (i := 1415) (by decide +kernel)) rfl
theorem mw_62 : Cond.selects RX12 yX12_waitsFor yX12_waitsFor ∈ lw_g := lw_in (List.mem_of_getElem? (i := 62) (by decide +kernel)) rfl
theorem kX12_127 : CallV RX12 127 yX12_waitsFor iX12_waitsFor 1 := ⟨mw_1413, mw_1415, mw_62, mw_92, mw_1416, by decide +kernel, by decide⟩
theorem fX12_25 : FldOK RX12 25 11 7 := ⟨RX12, TX12, 12, rfl, by decide, inG11, mw_1203⟩
theorem mw_1204 : Cond.fieldLink RX12 130 "LockSimulatorModel" "many" "I" ∈ lw_g := lw_in (List.mem_of_getElem? (i := 1204) (by decide +kernel)) rfl
theorem fX12_130 : FldOK RX12 130 11 8 := ⟨RX12, TX12, 12, rfl, by decide, inG11, mw_1204⟩
theorem pX12_130 : PutOK RX12 130 11 8 .int false := ⟨RX12, TX12, 12, tyX12, rfl, by decide, inG11, mw_1204, tyX12_ok, nmX12, rfl, by decide +kernel, fun h => by cases h⟩
theorem qX12_134 : Cond.constantLong RX12 134 (31) ∈ lw_g := lw_in (List.mem_of_getElem? (i := 1466) (by decide +kernel)) rfl
theorem mw_1467 : Cond.methodLink RX12 136 yX12_sign ∈ lw_g := lw_in (List.mem_of_getElem? (i := 1467) (by decide +kernel)) rfl
theorem mw_1470 : Cond.code yX12_sign cX12_sign 2 none ∈ lw_g := lw_in (List.mem_of_getElem? (i := 1470) (by decide +kernel)) rfl
theorem mw_1469 : Cond.instanceMethod yX12_sign ∈ lw_g := lw_in (List.mem_of_getElem? (i := 1469) (by decide +kernel)) rfl
theorem mw_65 : Cond.selects RX12 yX12_sign yX12_sign ∈ lw_g := lw_in (List.mem_of_getElem? (i := 65) (by decide +kernel)) rfl
theorem kX12_136 : CallV RX12 136 yX12_sign iX12_sign 1 := ⟨mw_1467, mw_1469, mw_65, mw_92, mw_1470, by decide +kernel, by decide⟩
theorem mw_1452 : Cond.fieldLink RX12 139 "LockSimulatorModel" "NEUTRAL_WORD" "J" ∈ lw_g := lw_in (List.mem_of_getElem? (i := 1452) (by decide +kernel)) rfl
theorem sX12_139 : Cond.fieldLink RX12 139 "LockSimulatorModel" "NEUTRAL_WORD" "J" ∈ lw_g := mw_1452
theorem mw_1454 : Cond.fieldLink RX12 143 "LockSimulatorModel" "BIASABLE_WORD" "J" ∈ lw_g := lw_in (List.mem_of_getElem? (i := 1454) (by decide +kernel)) rfl
theorem sX12_143 : Cond.fieldLink RX12 143 "LockSimulatorModel" "BIASABLE_WORD" "J" ∈ lw_g := mw_1454
theorem mw_1456 : Cond.fieldLink RX12 146 "LockSimulatorModel" "BIASED_WORD" "J" ∈ lw_g := lw_in (List.mem_of_getElem? (i := 1456) (by decide +kernel)) rfl
theorem sX12_146 : Cond.fieldLink RX12 146 "LockSimulatorModel" "BIASED_WORD" "J" ∈ lw_g := mw_1456
theorem mw_1458 : Cond.fieldLink RX12 149 "LockSimulatorModel" "THIN_WORD" "J" ∈ lw_g := lw_in (List.mem_of_getElem? (i := 1458) (by decide +kernel)) rfl
theorem sX12_149 : Cond.fieldLink RX12 149 "LockSimulatorModel" "THIN_WORD" "J" ∈ lw_g := mw_1458
theorem mw_1460 : Cond.fieldLink RX12 152 "LockSimulatorModel" "INFLATED_WORD" "J" ∈ lw_g := lw_in (List.mem_of_getElem? (i := 1460) (by decide +kernel)) rfl
theorem sX12_152 : Cond.fieldLink RX12 152 "LockSimulatorModel" "INFLATED_WORD" "J" ∈ lw_g := mw_1460
theorem mw_1471 : Cond.methodLink RX12 155 yX12_blank ∈ lw_g := lw_in (List.mem_of_getElem? (i := 1471) (by decide +kernel)) rfl
theorem mw_1474 : Cond.code yX12_blank cX12_blank 1 none ∈ lw_g := lw_in (List.mem_of_getElem? (i := 1474) (by decide +kernel)) rfl
theorem mw_1473 : Cond.instanceMethod yX12_blank ∈ lw_g := lw_in (List.mem_of_getElem? (i := 1473) (by decide +kernel)) rfl
theorem mw_66 : Cond.selects RX12 yX12_blank yX12_blank ∈ lw_g := lw_in (List.mem_of_getElem? (i := 66) (by decide +kernel)) rfl
theorem kX12_155 : CallV RX12 155 yX12_blank iX12_blank 0 := ⟨mw_1471, mw_1473, mw_66, mw_92, mw_1474, by decide +kernel, by decide⟩
theorem mw_1462 : Cond.methodLink RX12 158 yX12_word ∈ lw_g := lw_in (List.mem_of_getElem? (i := 1462) (by decide +kernel)) rfl
theorem mw_1465 : Cond.code yX12_word cX12_word 5 none ∈ lw_g := lw_in (List.mem_of_getElem? (i := 1465) (by decide +kernel)) rfl
theorem mw_1464 : Cond.instanceMethod yX12_word ∈ lw_g := lw_in (List.mem_of_getElem? (i := 1464) (by decide +kernel)) rfl
theorem mw_64 : Cond.selects RX12 yX12_word yX12_word ∈ lw_g := lw_in (List.mem_of_getElem? (i := 64) (by decide +kernel)) rfl
theorem kX12_158 : CallV RX12 158 yX12_word iX12_word 1 := ⟨mw_1462, mw_1464, mw_64, mw_92, mw_1465, by decide +kernel, by decide⟩
theorem mw_1477 : Cond.methodLink RX12 162 yX12_number ∈ lw_g := lw_in (List.mem_of_getElem? (i := 1477) (by decide +kernel)) rfl
theorem mw_1480 : Cond.code yX12_number cX12_number 4 none ∈ lw_g := lw_in (List.mem_of_getElem? (i := 1480) (by decide +kernel)) rfl
theorem mw_1479 : Cond.instanceMethod yX12_number ∈ lw_g := lw_in (List.mem_of_getElem? (i := 1479) (by decide +kernel)) rfl
theorem mw_67 : Cond.selects RX12 yX12_number yX12_number ∈ lw_g := lw_in (List.mem_of_getElem? (i := 67) (by decide +kernel)) rfl
theorem kX12_162 : CallV RX12 162 yX12_number iX12_number 1 := ⟨mw_1477, mw_1479, mw_67, mw_92, mw_1480, by decide +kernel, by decide⟩
theorem mw_1449 : Cond.methodLink RX12 165 yX12_lockWord ∈ lw_g := lw_in (List.mem_of_getElem? (i := 1449) (by decide +kernel)) rfl
theorem mw_1451 : Cond.code yX12_lockWord cX12_lockWord 1 (some .long) ∈ lw_g := lw_in (List.mem_of_getElem? (i := 1451) (by decide +kernel)) rfl
theorem mw_1450 : Cond.static yX12_lockWord ∈ lw_g := lw_in (List.mem_of_getElem? (i := 1450) (by decide +kernel)) rfl
theorem kX12_165 : CallS RX12 165 yX12_lockWord iX12_lockWord 1 := ⟨mw_1449, mw_1450, mw_92, mw_1451, by decide +kernel, by decide⟩
theorem mw_1475 : Cond.fieldLink RX12 169 "LockSimulatorModel" "TO_WORD" "J" ∈ lw_g := lw_in (List.mem_of_getElem? (i := 1475) (by decide +kernel)) rfl
theorem sX12_169 : Cond.fieldLink RX12 169 "LockSimulatorModel" "TO_WORD" "J" ∈ lw_g := mw_1475
theorem mw_1481 : Cond.fieldLink RX12 172 "LockSimulatorModel" "OLD_WORD" "J" ∈ lw_g := lw_in (List.mem_of_getElem? (i := 1481) (by decide +kernel)) rfl
theorem sX12_172 : Cond.fieldLink RX12 172 "LockSimulatorModel" "OLD_WORD" "J" ∈ lw_g := mw_1481
theorem mw_1483 : Cond.fieldLink RX12 175 "LockSimulatorModel" "BY_WORD" "J" ∈ lw_g := lw_in (List.mem_of_getElem? (i := 1483) (by decide +kernel)) rfl
theorem sX12_175 : Cond.fieldLink RX12 175 "LockSimulatorModel" "BY_WORD" "J" ∈ lw_g := mw_1483
theorem mw_1485 : Cond.fieldLink RX12 178 "LockSimulatorModel" "QUEUE_WORD" "J" ∈ lw_g := lw_in (List.mem_of_getElem? (i := 1485) (by decide +kernel)) rfl
theorem sX12_178 : Cond.fieldLink RX12 178 "LockSimulatorModel" "QUEUE_WORD" "J" ∈ lw_g := mw_1485
theorem mw_1487 : Cond.methodLink RX12 181 yX12_list ∈ lw_g := lw_in (List.mem_of_getElem? (i := 1487) (by decide +kernel)) rfl
theorem mw_1490 : Cond.code yX12_list cX12_list 6 none ∈ lw_g := lw_in (List.mem_of_getElem? (i := 1490) (by decide +kernel)) rfl
theorem mw_1489 : Cond.instanceMethod yX12_list ∈ lw_g := lw_in (List.mem_of_getElem? (i := 1489) (by decide +kernel)) rfl
theorem mw_68 : Cond.selects RX12 yX12_list yX12_list ∈ lw_g := lw_in (List.mem_of_getElem? (i := 68) (by decide +kernel)) rfl
theorem kX12_181 : CallV RX12 181 yX12_list iX12_list 3 := ⟨mw_1487, mw_1489, mw_68, mw_92, mw_1490, by decide +kernel, by decide⟩
theorem mw_1491 : Cond.fieldLink RX12 185 "LockSimulatorModel" "WAIT_WORD" "J" ∈ lw_g := lw_in (List.mem_of_getElem? (i := 1491) (by decide +kernel)) rfl
theorem sX12_185 : Cond.fieldLink RX12 185 "LockSimulatorModel" "WAIT_WORD" "J" ∈ lw_g := mw_1491
theorem mw_1493 : Cond.fieldLink RX12 188 "LockSimulatorModel" "ABAND" "J" ∈ lw_g := lw_in (List.mem_of_getElem? (i := 1493) (by decide +kernel)) rfl
theorem sX12_188 : Cond.fieldLink RX12 188 "LockSimulatorModel" "ABAND" "J" ∈ lw_g := mw_1493
theorem mw_1445 : Cond.methodLink RX12 191 yX12_makeText ∈ lw_g := lw_in (List.mem_of_getElem? (i := 1445) (by decide +kernel)) rfl
theorem mw_1448 : Cond.code yX12_makeText cX12_makeText 2 none ∈ lw_g := lw_in (List.mem_of_getElem? (i := 1448) (by decide +kernel)) rfl
theorem mw_1447 : Cond.instanceMethod yX12_makeText ∈ lw_g := lw_in (List.mem_of_getElem? (i := 1447) (by decide +kernel)) rfl
theorem mw_63 : Cond.selects RX12 yX12_makeText yX12_makeText ∈ lw_g := lw_in (List.mem_of_getElem? (i := 63) (by decide +kernel)) rfl
theorem kX12_191 : CallV RX12 191 yX12_makeText iX12_makeText 1 := ⟨mw_1445, mw_1447, mw_63, mw_92, mw_1448, by decide +kernel, by decide⟩
theorem mw_1527 : Cond.methodLink RX12 194 yX12_enter ∈ lw_g := lw_in (List.mem_of_getElem? (i := 1527) (by decide +kernel)) rfl
theorem mw_1265 : Cond.code yX12_enter cX12_enter 6 (some .int) ∈ lw_g := lw_in (List.mem_of_getElem? (i := 1265) (by decide +kernel)) rfl
theorem mw_1263 : Cond.instanceMethod yX12_enter ∈ lw_g := lw_in (List.mem_of_getElem? (i := 1263) (by decide +kernel)) rfl
theorem mw_1264 : Cond.selects RX12 yX12_enter yX12_enter ∈ lw_g := lw_in (List.mem_of_getElem? (i := 1264) (by decide +kernel)) rfl
theorem kX12_194 : CallV RX12 194 yX12_enter iX12_enter 2 := ⟨mw_1527, mw_1263, mw_1264, mw_92, mw_1265, by decide +kernel, by decide⟩
theorem mw_1528 : Cond.methodLink RX12 197 yX12_exit ∈ lw_g := lw_in (List.mem_of_getElem? (i := 1528) (by decide +kernel)) rfl
theorem mw_1328 : Cond.code yX12_exit cX12_exit 5 (some .int) ∈ lw_g := lw_in (List.mem_of_getElem? (i := 1328) (by decide +kernel)) rfl
theorem mw_1326 : Cond.instanceMethod yX12_exit ∈ lw_g := lw_in (List.mem_of_getElem? (i := 1326) (by decide +kernel)) rfl
theorem mw_1327 : Cond.selects RX12 yX12_exit yX12_exit ∈ lw_g := lw_in (List.mem_of_getElem? (i := 1327) (by decide +kernel)) rfl
theorem kX12_197 : CallV RX12 197 yX12_exit iX12_exit 2 := ⟨mw_1528, mw_1326, mw_1327, mw_92, mw_1328, by decide +kernel, by decide⟩
theorem mw_1529 : Cond.methodLink RX12 200 yX12_await ∈ lw_g := lw_in (List.mem_of_getElem? (i := 1529) (by decide +kernel)) rfl
theorem mw_1348 : Cond.code yX12_await cX12_await 6 (some .int) ∈ lw_g := lw_in (List.mem_of_getElem? (i := 1348) (by decide +kernel)) rfl
theorem mw_1346 : Cond.instanceMethod yX12_await ∈ lw_g := lw_in (List.mem_of_getElem? (i := 1346) (by decide +kernel)) rfl
theorem mw_1347 : Cond.selects RX12 yX12_await yX12_await ∈ lw_g := lw_in (List.mem_of_getElem? (i := 1347) (by decide +kernel)) rfl
theorem kX12_200 : CallV RX12 200 yX12_await iX12_await 3 := ⟨mw_1529, mw_1346, mw_1347, mw_92, mw_1348, by decide +kernel, by decide⟩
theorem mw_1530 : Cond.methodLink RX12 204 yX12_signal ∈ lw_g := lw_in (List.mem_of_getElem? (i := 1530) (by decide +kernel)) rfl
theorem mw_1352 : Cond.code yX12_signal cX12_signal 5 (some .int) ∈ lw_g := lw_in (List.mem_of_getElem? (i := 1352) (by decide +kernel)) rfl
theorem mw_1350 : Cond.instanceMethod yX12_signal ∈ lw_g := lw_in (List.mem_of_getElem? (i := 1350) (by decide +kernel)) rfl
theorem mw_1351 : Cond.selects RX12 yX12_signal yX12_signal ∈ lw_g := lw_in (List.mem_of_getElem? (i := 1351) (by decide +kernel)) rfl
theorem kX12_204 : CallV RX12 204 yX12_signal iX12_signal 2 := ⟨mw_1530, mw_1350, mw_1351, mw_92, mw_1352, by decide +kernel, by decide⟩
theorem mw_1531 : Cond.methodLink RX12 207 yX12_signalAll ∈ lw_g := lw_in (List.mem_of_getElem? (i := 1531) (by decide +kernel)) rfl
theorem mw_1364 : Cond.code yX12_signalAll cX12_signalAll 5 (some .int) ∈ lw_g := lw_in (List.mem_of_getElem? (i := 1364) (by decide +kernel)) rfl
theorem mw_1362 : Cond.instanceMethod yX12_signalAll ∈ lw_g := lw_in (List.mem_of_getElem? (i := 1362) (by decide +kernel)) rfl
theorem mw_1363 : Cond.selects RX12 yX12_signalAll yX12_signalAll ∈ lw_g := lw_in (List.mem_of_getElem? (i := 1363) (by decide +kernel)) rfl
theorem kX12_207 : CallV RX12 207 yX12_signalAll iX12_signalAll 2 := ⟨mw_1531, mw_1362, mw_1363, mw_92, mw_1364, by decide +kernel, by decide⟩
theorem mw_1532 : Cond.methodLink RX12 210 yX12_interrupt ∈ lw_g := lw_in (List.mem_of_getElem? (i := 1532) (by decide +kernel)) rfl
theorem mw_1368 : Cond.code yX12_interrupt cX12_interrupt 2 (some .int) ∈ lw_g := lw_in (List.mem_of_getElem? (i := 1368) (by decide +kernel)) rfl
theorem mw_1366 : Cond.instanceMethod yX12_interrupt ∈ lw_g := lw_in (List.mem_of_getElem? (i := 1366) (by decide +kernel)) rfl
theorem mw_1367 : Cond.selects RX12 yX12_interrupt yX12_interrupt ∈ lw_g := lw_in (List.mem_of_getElem? (i := 1367) (by decide +kernel)) rfl
theorem kX12_210 : CallV RX12 210 yX12_interrupt iX12_interrupt 1 := ⟨mw_1532, mw_1366, mw_1367, mw_92, mw_1368, by decide +kernel, by decide⟩
theorem mw_1533 : Cond.methodLink RX12 213 yX12_die ∈ lw_g := lw_in (List.mem_of_getElem? (i := 1533) (by decide +kernel)) rfl
theorem mw_1372 : Cond.code yX12_die cX12_die 5 (some .int) ∈ lw_g := lw_in (List.mem_of_getElem? (i := 1372) (by decide +kernel)) rfl
theorem mw_1370 : Cond.instanceMethod yX12_die ∈ lw_g := lw_in (List.mem_of_getElem? (i := 1370) (by decide +kernel)) rfl
theorem mw_1371 : Cond.selects RX12 yX12_die yX12_die ∈ lw_g := lw_in (List.mem_of_getElem? (i := 1371) (by decide +kernel)) rfl
theorem kX12_213 : CallV RX12 213 yX12_die iX12_die 1 := ⟨mw_1533, mw_1370, mw_1371, mw_92, mw_1372, by decide +kernel, by decide⟩
theorem mw_1534 : Cond.methodLink RX12 216 yX12_start ∈ lw_g := lw_in (List.mem_of_getElem? (i := 1534) (by decide +kernel)) rfl
theorem mw_1376 : Cond.code yX12_start cX12_start 4 (some .int) ∈ lw_g := lw_in (List.mem_of_getElem? (i := 1376) (by decide +kernel)) rfl
theorem mw_1374 : Cond.instanceMethod yX12_start ∈ lw_g := lw_in (List.mem_of_getElem? (i := 1374) (by decide +kernel)) rfl
theorem mw_1375 : Cond.selects RX12 yX12_start yX12_start ∈ lw_g := lw_in (List.mem_of_getElem? (i := 1375) (by decide +kernel)) rfl
theorem kX12_216 : CallV RX12 216 yX12_start iX12_start 1 := ⟨mw_1534, mw_1374, mw_1375, mw_92, mw_1376, by decide +kernel, by decide⟩
theorem mw_1535 : Cond.methodLink RX12 219 yX12_hash ∈ lw_g := lw_in (List.mem_of_getElem? (i := 1535) (by decide +kernel)) rfl
theorem mw_1380 : Cond.code yX12_hash cX12_hash 3 (some .int) ∈ lw_g := lw_in (List.mem_of_getElem? (i := 1380) (by decide +kernel)) rfl
theorem mw_1378 : Cond.instanceMethod yX12_hash ∈ lw_g := lw_in (List.mem_of_getElem? (i := 1378) (by decide +kernel)) rfl
theorem mw_1379 : Cond.selects RX12 yX12_hash yX12_hash ∈ lw_g := lw_in (List.mem_of_getElem? (i := 1379) (by decide +kernel)) rfl
theorem kX12_219 : CallV RX12 219 yX12_hash iX12_hash 1 := ⟨mw_1535, mw_1378, mw_1379, mw_92, mw_1380, by decide +kernel, by decide⟩
theorem mw_1536 : Cond.methodLink RX12 222 yX12_tick ∈ lw_g := lw_in (List.mem_of_getElem? (i := 1536) (by decide +kernel)) rfl
theorem mw_1384 : Cond.code yX12_tick cX12_tick 4 (some .int) ∈ lw_g := lw_in (List.mem_of_getElem? (i := 1384) (by decide +kernel)) rfl
theorem mw_1382 : Cond.instanceMethod yX12_tick ∈ lw_g := lw_in (List.mem_of_getElem? (i := 1382) (by decide +kernel)) rfl
theorem mw_1383 : Cond.selects RX12 yX12_tick yX12_tick ∈ lw_g := lw_in (List.mem_of_getElem? (i := 1383) (by decide +kernel)) rfl
theorem kX12_222 : CallV RX12 222 yX12_tick iX12_tick 1 := ⟨mw_1536, mw_1382, mw_1383, mw_92, mw_1384, by decide +kernel, by decide⟩
theorem fX12_16 : FldOK RX12 16 11 2 := ⟨RX12, TX12, 12, rfl, by decide, inG11, mw_1198⟩
theorem mw_1523 : Cond.methodLink RX12 225 yX12_operate ∈ lw_g := lw_in (List.mem_of_getElem? (i := 1523) (by decide +kernel)) rfl
theorem mw_1526 : Cond.code yX12_operate cX12_operate 5 (some .int) ∈ lw_g := lw_in (List.mem_of_getElem? (i := 1526) (by decide +kernel)) rfl
theorem mw_1525 : Cond.instanceMethod yX12_operate ∈ lw_g := lw_in (List.mem_of_getElem? (i := 1525) (by decide +kernel)) rfl
theorem mw_70 : Cond.selects RX12 yX12_operate yX12_operate ∈ lw_g := lw_in (List.mem_of_getElem? (i := 70) (by decide +kernel)) rfl
theorem kX12_225 : CallV RX12 225 yX12_operate iX12_operate 4 := ⟨mw_1523, mw_1525, mw_70, mw_92, mw_1526, by decide +kernel, by decide⟩
theorem mw_1537 : Cond.methodLink RX12 229 yX12_cost ∈ lw_g := lw_in (List.mem_of_getElem? (i := 1537) (by decide +kernel)) rfl
theorem mw_1510 : Cond.code yX12_cost cX12_cost 1 (some .int) ∈ lw_g := lw_in (List.mem_of_getElem? (i := 1510) (by decide +kernel)) rfl
theorem mw_1508 : Cond.instanceMethod yX12_cost ∈ lw_g := lw_in (List.mem_of_getElem? (i := 1508) (by decide +kernel)) rfl
theorem mw_1509 : Cond.selects RX12 yX12_cost yX12_cost ∈ lw_g := lw_in (List.mem_of_getElem? (i := 1509) (by decide +kernel)) rfl
theorem kX12_229 : CallV RX12 229 yX12_cost iX12_cost 0 := ⟨mw_1537, mw_1508, mw_1509, mw_92, mw_1510, by decide +kernel, by decide⟩
theorem mw_1519 : Cond.methodLink RX12 232 yX12_replayed ∈ lw_g := lw_in (List.mem_of_getElem? (i := 1519) (by decide +kernel)) rfl
theorem mw_1522 : Cond.code yX12_replayed cX12_replayed 6 (some .int) ∈ lw_g := lw_in (List.mem_of_getElem? (i := 1522) (by decide +kernel)) rfl
theorem mw_1521 : Cond.instanceMethod yX12_replayed ∈ lw_g := lw_in (List.mem_of_getElem? (i := 1521) (by decide +kernel)) rfl
theorem mw_69 : Cond.selects RX12 yX12_replayed yX12_replayed ∈ lw_g := lw_in (List.mem_of_getElem? (i := 69) (by decide +kernel)) rfl
theorem kX12_232 : CallV RX12 232 yX12_replayed iX12_replayed 2 := ⟨mw_1519, mw_1521, mw_69, mw_92, mw_1522, by decide +kernel, by decide⟩
theorem mw_1202 : Cond.fieldLink RX12 235 "LockSimulatorModel" "length" "I" ∈ lw_g := lw_in (List.mem_of_getElem? (i := 1202) (by decide +kernel)) rfl
theorem fX12_235 : FldOK RX12 235 11 6 := ⟨RX12, TX12, 12, rfl, by decide, inG11, mw_1202⟩
theorem fX12_22 : FldOK RX12 22 11 5 := ⟨RX12, TX12, 12, rfl, by decide, inG11, mw_1201⟩
theorem pX12_235 : PutOK RX12 235 11 6 .int false := ⟨RX12, TX12, 12, tyX12, rfl, by decide, inG11, mw_1202, tyX12_ok, nmX12, rfl, by decide +kernel, fun h => by cases h⟩
theorem mw_1565 : Cond.fieldLink RX12 238 "LockSimulatorModel" "ENTER_WORD" "J" ∈ lw_g := lw_in (List.mem_of_getElem? (i := 1565) (by decide +kernel)) rfl
theorem sX12_238 : Cond.fieldLink RX12 238 "LockSimulatorModel" "ENTER_WORD" "J" ∈ lw_g := mw_1565
theorem mw_1567 : Cond.fieldLink RX12 241 "LockSimulatorModel" "EXIT_WORD" "J" ∈ lw_g := lw_in (List.mem_of_getElem? (i := 1567) (by decide +kernel)) rfl
theorem sX12_241 : Cond.fieldLink RX12 241 "LockSimulatorModel" "EXIT_WORD" "J" ∈ lw_g := mw_1567
theorem mw_1569 : Cond.fieldLink RX12 244 "LockSimulatorModel" "AWAIT_WORD" "J" ∈ lw_g := lw_in (List.mem_of_getElem? (i := 1569) (by decide +kernel)) rfl
theorem sX12_244 : Cond.fieldLink RX12 244 "LockSimulatorModel" "AWAIT_WORD" "J" ∈ lw_g := mw_1569
theorem mw_1571 : Cond.fieldLink RX12 247 "LockSimulatorModel" "SIGNAL_WORD" "J" ∈ lw_g := lw_in (List.mem_of_getElem? (i := 1571) (by decide +kernel)) rfl
theorem sX12_247 : Cond.fieldLink RX12 247 "LockSimulatorModel" "SIGNAL_WORD" "J" ∈ lw_g := mw_1571
theorem mw_1573 : Cond.fieldLink RX12 250 "LockSimulatorModel" "INTER_WORD" "J" ∈ lw_g := lw_in (List.mem_of_getElem? (i := 1573) (by decide +kernel)) rfl
theorem sX12_250 : Cond.fieldLink RX12 250 "LockSimulatorModel" "INTER_WORD" "J" ∈ lw_g := mw_1573
theorem mw_1575 : Cond.fieldLink RX12 253 "LockSimulatorModel" "DIE_WORD" "J" ∈ lw_g := lw_in (List.mem_of_getElem? (i := 1575) (by decide +kernel)) rfl
theorem sX12_253 : Cond.fieldLink RX12 253 "LockSimulatorModel" "DIE_WORD" "J" ∈ lw_g := mw_1575
theorem mw_1577 : Cond.fieldLink RX12 256 "LockSimulatorModel" "START_WORD" "J" ∈ lw_g := lw_in (List.mem_of_getElem? (i := 1577) (by decide +kernel)) rfl
theorem sX12_256 : Cond.fieldLink RX12 256 "LockSimulatorModel" "START_WORD" "J" ∈ lw_g := mw_1577
theorem mw_1579 : Cond.fieldLink RX12 259 "LockSimulatorModel" "HASH_WORD" "J" ∈ lw_g := lw_in (List.mem_of_getElem? (i := 1579) (by decide +kernel)) rfl
theorem sX12_259 : Cond.fieldLink RX12 259 "LockSimulatorModel" "HASH_WORD" "J" ∈ lw_g := mw_1579
theorem mw_1581 : Cond.fieldLink RX12 262 "LockSimulatorModel" "TICK_WORD" "J" ∈ lw_g := lw_in (List.mem_of_getElem? (i := 1581) (by decide +kernel)) rfl
theorem sX12_262 : Cond.fieldLink RX12 262 "LockSimulatorModel" "TICK_WORD" "J" ∈ lw_g := mw_1581
theorem mw_1562 : Cond.methodLink RX12 265 yX12_operationWord ∈ lw_g := lw_in (List.mem_of_getElem? (i := 1562) (by decide +kernel)) rfl
theorem mw_1564 : Cond.code yX12_operationWord cX12_operationWord 1 (some .long) ∈ lw_g := lw_in (List.mem_of_getElem? (i := 1564) (by decide +kernel)) rfl
theorem mw_1563 : Cond.static yX12_operationWord ∈ lw_g := lw_in (List.mem_of_getElem? (i := 1563) (by decide +kernel)) rfl
theorem kX12_265 : CallS RX12 265 yX12_operationWord iX12_operationWord 1 := ⟨mw_1562, mw_1563, mw_92, mw_1564, by decide +kernel, by decide⟩
theorem mw_1207 : Cond.fieldLink RX12 268 "LockSimulatorModel" "at" "I" ∈ lw_g := lw_in (List.mem_of_getElem? (i := 1207) (by decide +kernel)) rfl
theorem fX12_268 : FldOK RX12 268 11 11 := ⟨RX12, TX12, 12, rfl, by decide, inG11, mw_1207⟩
theorem pX12_268 : PutOK RX12 268 11 11 .int false := ⟨RX12, TX12, 12, tyX12, rfl, by decide, inG11, mw_1207, tyX12_ok, nmX12, rfl, by decide +kernel, fun h => by cases h⟩
theorem mw_1590 : Cond.methodLink RX12 271 yX12_isDigit ∈ lw_g := lw_in (List.mem_of_getElem? (i := 1590) (by decide +kernel)) rfl
theorem mw_1593 : Cond.code yX12_isDigit cX12_isDigit 2 (some .boolean) ∈ lw_g := lw_in (List.mem_of_getElem? (i := 1593) (by decide +kernel)) rfl
theorem mw_1592 : Cond.instanceMethod yX12_isDigit ∈ lw_g := lw_in (List.mem_of_getElem? (i := 1592) (by decide +kernel)) rfl
theorem mw_74 : Cond.selects RX12 yX12_isDigit yX12_isDigit ∈ lw_g := lw_in (List.mem_of_getElem? (i := 74) (by decide +kernel)) rfl
theorem kX12_271 : CallV RX12 271 yX12_isDigit iX12_isDigit 1 := ⟨mw_1590, mw_1592, mw_74, mw_92, mw_1593, by decide +kernel, by decide⟩
theorem mw_1558 : Cond.methodLink RX12 274 yX12_passes ∈ lw_g := lw_in (List.mem_of_getElem? (i := 1558) (by decide +kernel)) rfl
theorem mw_1561 : Cond.code yX12_passes cX12_passes 4 (some .boolean) ∈ lw_g := lw_in (List.mem_of_getElem? (i := 1561) (by decide +kernel)) rfl
theorem mw_1560 : Cond.instanceMethod yX12_passes ∈ lw_g := lw_in (List.mem_of_getElem? (i := 1560) (by decide +kernel)) rfl
theorem mw_72 : Cond.selects RX12 yX12_passes yX12_passes ∈ lw_g := lw_in (List.mem_of_getElem? (i := 72) (by decide +kernel)) rfl
theorem kX12_274 : CallV RX12 274 yX12_passes iX12_passes 1 := ⟨mw_1558, mw_1560, mw_72, mw_92, mw_1561, by decide +kernel, by decide⟩
theorem fX12_28 : FldOK RX12 28 11 9 := ⟨RX12, TX12, 12, rfl, by decide, inG11, mw_1205⟩
theorem mw_1206 : Cond.fieldLink RX12 277 "LockSimulatorModel" "itemCount" "I" ∈ lw_g := lw_in (List.mem_of_getElem? (i := 1206) (by decide +kernel)) rfl
theorem fX12_277 : FldOK RX12 277 11 10 := ⟨RX12, TX12, 12, rfl, by decide, inG11, mw_1206⟩
theorem mw_1583 : Cond.methodLink RX12 280 yX12_sortOf ∈ lw_g := lw_in (List.mem_of_getElem? (i := 1583) (by decide +kernel)) rfl
theorem mw_1585 : Cond.code yX12_sortOf cX12_sortOf 2 (some .int) ∈ lw_g := lw_in (List.mem_of_getElem? (i := 1585) (by decide +kernel)) rfl
theorem mw_1584 : Cond.static yX12_sortOf ∈ lw_g := lw_in (List.mem_of_getElem? (i := 1584) (by decide +kernel)) rfl
theorem kX12_280 : CallS RX12 280 yX12_sortOf iX12_sortOf 2 := ⟨mw_1583, mw_1584, mw_92, mw_1585, by decide +kernel, by decide⟩
theorem mw_1586 : Cond.methodLink RX12 283 yX12_argument ∈ lw_g := lw_in (List.mem_of_getElem? (i := 1586) (by decide +kernel)) rfl
theorem mw_1589 : Cond.code yX12_argument cX12_argument 3 (some .int) ∈ lw_g := lw_in (List.mem_of_getElem? (i := 1589) (by decide +kernel)) rfl
theorem mw_1588 : Cond.instanceMethod yX12_argument ∈ lw_g := lw_in (List.mem_of_getElem? (i := 1588) (by decide +kernel)) rfl
theorem mw_73 : Cond.selects RX12 yX12_argument yX12_argument ∈ lw_g := lw_in (List.mem_of_getElem? (i := 73) (by decide +kernel)) rfl
theorem kX12_283 : CallV RX12 283 yX12_argument iX12_argument 1 := ⟨mw_1586, mw_1588, mw_73, mw_92, mw_1589, by decide +kernel, by decide⟩
theorem pX12_277 : PutOK RX12 277 11 10 .int false := ⟨RX12, TX12, 12, tyX12, rfl, by decide, inG11, mw_1206, tyX12_ok, nmX12, rfl, by decide +kernel, fun h => by cases h⟩
theorem mw_1554 : Cond.methodLink RX12 286 yX12_readsItem ∈ lw_g := lw_in (List.mem_of_getElem? (i := 1554) (by decide +kernel)) rfl
theorem mw_1557 : Cond.code yX12_readsItem cX12_readsItem 5 (some .boolean) ∈ lw_g := lw_in (List.mem_of_getElem? (i := 1557) (by decide +kernel)) rfl
theorem mw_1556 : Cond.instanceMethod yX12_readsItem ∈ lw_g := lw_in (List.mem_of_getElem? (i := 1556) (by decide +kernel)) rfl
theorem mw_71 : Cond.selects RX12 yX12_readsItem yX12_readsItem ∈ lw_g := lw_in (List.mem_of_getElem? (i := 71) (by decide +kernel)) rfl
theorem kX12_286 : CallV RX12 286 yX12_readsItem iX12_readsItem 0 := ⟨mw_1554, mw_1556, mw_71, mw_92, mw_1557, by decide +kernel, by decide⟩
theorem mw_1598 : Cond.methodLink RX12 290 yX12_fault ∈ lw_g := lw_in (List.mem_of_getElem? (i := 1598) (by decide +kernel)) rfl
theorem mw_1553 : Cond.code yX12_fault cX12_fault 1 (some .int) ∈ lw_g := lw_in (List.mem_of_getElem? (i := 1553) (by decide +kernel)) rfl
theorem mw_1551 : Cond.instanceMethod yX12_fault ∈ lw_g := lw_in (List.mem_of_getElem? (i := 1551) (by decide +kernel)) rfl
theorem mw_1552 : Cond.selects RX12 yX12_fault yX12_fault ∈ lw_g := lw_in (List.mem_of_getElem? (i := 1552) (by decide +kernel)) rfl
theorem kX12_290 : CallV RX12 290 yX12_fault iX12_fault 0 := ⟨mw_1598, mw_1551, mw_1552, mw_92, mw_1553, by decide +kernel, by decide⟩
theorem fX12_19 : FldOK RX12 19 11 3 := ⟨RX12, TX12, 12, rfl, by decide, inG11, mw_1199⟩
theorem mw_1200 : Cond.fieldLink RX12 293 "LockSimulatorModel" "filled" "I" ∈ lw_g := lw_in (List.mem_of_getElem? (i := 1200) (by decide +kernel)) rfl
theorem fX12_293 : FldOK RX12 293 11 4 := ⟨RX12, TX12, 12, rfl, by decide, inG11, mw_1200⟩
theorem pX12_293 : PutOK RX12 293 11 4 .int false := ⟨RX12, TX12, 12, tyX12, rfl, by decide, inG11, mw_1200, tyX12_ok, nmX12, rfl, by decide +kernel, fun h => by cases h⟩
theorem mw_101 : Cond.classLink RL 7 RX11 ∈ lw_g := lw_in (List.mem_of_getElem? (i := 101) (by decide +kernel)) rfl
theorem mw_102 : Cond.instantiable RX11 6 ∈ lw_g := lw_in (List.mem_of_getElem? (i := 102) (by decide +kernel)) rfl
theorem nL_7 : NewOK RL 7 10 6 [.null, .null, .null, .null, .null, .null] := ⟨RX11, TX11, tyX11, rfl, inG10, tyX11_ok, by decide +kernel, mw_101, mw_102, mw_76⟩
theorem mw_103 : Cond.methodLink RL 9 yX11_init ∈ lw_g := lw_in (List.mem_of_getElem? (i := 103) (by decide +kernel)) rfl
theorem mw_105 : Cond.code yX11_init cX11_init 2 none ∈ lw_g := lw_in (List.mem_of_getElem? (i := 105) (by decide +kernel)) rfl
theorem mw_104 : Cond.instanceMethod yX11_init ∈ lw_g := lw_in (List.mem_of_getElem? (i := 104) (by decide +kernel)) rfl
theorem kL_9 : CallI RL 9 yX11_init iX11_init 0 := ⟨mw_103, mw_104, rfl, mw_76, mw_105, by decide +kernel, by decide, rfl⟩
theorem mw_1186 : Cond.classLink RL 10 RX12 ∈ lw_g := lw_in (List.mem_of_getElem? (i := 1186) (by decide +kernel)) rfl
theorem mw_1187 : Cond.instantiable RX12 12 ∈ lw_g := lw_in (List.mem_of_getElem? (i := 1187) (by decide +kernel)) rfl
theorem nL_10 : NewOK RL 10 11 12 [.null, .null, .null, .null, .int 0, .null, .int 0, .null, .int 0, .null, .int 0, .int 0] := ⟨RX12, TX12, tyX12, rfl, inG11, tyX12_ok, by decide +kernel, mw_1186, mw_1187, mw_92⟩
theorem mw_1188 : Cond.methodLink RL 12 yX12_init ∈ lw_g := lw_in (List.mem_of_getElem? (i := 1188) (by decide +kernel)) rfl
theorem mw_1190 : Cond.code yX12_init cX12_init 1 none ∈ lw_g := lw_in (List.mem_of_getElem? (i := 1190) (by decide +kernel)) rfl
theorem mw_1189 : Cond.instanceMethod yX12_init ∈ lw_g := lw_in (List.mem_of_getElem? (i := 1189) (by decide +kernel)) rfl
theorem kL_12 : CallI RL 12 yX12_init iX12_init 0 := ⟨mw_1188, mw_1189, rfl, mw_92, mw_1190, by decide +kernel, by decide, rfl⟩
theorem mw_451 : Cond.methodLink RL 13 yX11_reset ∈ lw_g := lw_in (List.mem_of_getElem? (i := 451) (by decide +kernel)) rfl
theorem mw_454 : Cond.code yX11_reset cX11_reset 3 (some .int) ∈ lw_g := lw_in (List.mem_of_getElem? (i := 454) (by decide +kernel)) rfl
theorem mw_452 : Cond.instanceMethod yX11_reset ∈ lw_g := lw_in (List.mem_of_getElem? (i := 452) (by decide +kernel)) rfl
theorem mw_453 : Cond.selects RX11 yX11_reset yX11_reset ∈ lw_g := lw_in (List.mem_of_getElem? (i := 453) (by decide +kernel)) rfl
theorem kL_13 : CallV RL 13 yX11_reset iX11_reset 1 := ⟨mw_451, mw_452, mw_453, mw_76, mw_454, by decide +kernel, by decide⟩
theorem mw_1233 : Cond.methodLink RL 17 yX12_reset ∈ lw_g := lw_in (List.mem_of_getElem? (i := 1233) (by decide +kernel)) rfl
theorem mw_1236 : Cond.code yX12_reset cX12_reset 3 (some .int) ∈ lw_g := lw_in (List.mem_of_getElem? (i := 1236) (by decide +kernel)) rfl
theorem mw_1234 : Cond.instanceMethod yX12_reset ∈ lw_g := lw_in (List.mem_of_getElem? (i := 1234) (by decide +kernel)) rfl
theorem mw_1235 : Cond.selects RX12 yX12_reset yX12_reset ∈ lw_g := lw_in (List.mem_of_getElem? (i := 1235) (by decide +kernel)) rfl
theorem kL_17 : CallV RL 17 yX12_reset iX12_reset 1 := ⟨mw_1233, mw_1234, mw_1235, mw_92, mw_1236, by decide +kernel, by decide⟩
theorem mw_460 : Cond.methodLink RL 18 yX11_set ∈ lw_g := lw_in (List.mem_of_getElem? (i := 460) (by decide +kernel)) rfl
theorem mw_463 : Cond.code yX11_set cX11_set 4 (some .int) ∈ lw_g := lw_in (List.mem_of_getElem? (i := 463) (by decide +kernel)) rfl
theorem mw_461 : Cond.instanceMethod yX11_set ∈ lw_g := lw_in (List.mem_of_getElem? (i := 461) (by decide +kernel)) rfl
theorem mw_462 : Cond.selects RX11 yX11_set yX11_set ∈ lw_g := lw_in (List.mem_of_getElem? (i := 462) (by decide +kernel)) rfl
theorem kL_18 : CallV RL 18 yX11_set iX11_set 2 := ⟨mw_460, mw_461, mw_462, mw_76, mw_463, by decide +kernel, by decide⟩
theorem mw_1240 : Cond.methodLink RL 22 yX12_set ∈ lw_g := lw_in (List.mem_of_getElem? (i := 1240) (by decide +kernel)) rfl
theorem mw_1243 : Cond.code yX12_set cX12_set 4 (some .int) ∈ lw_g := lw_in (List.mem_of_getElem? (i := 1243) (by decide +kernel)) rfl
theorem mw_1241 : Cond.instanceMethod yX12_set ∈ lw_g := lw_in (List.mem_of_getElem? (i := 1241) (by decide +kernel)) rfl
theorem mw_1242 : Cond.selects RX12 yX12_set yX12_set ∈ lw_g := lw_in (List.mem_of_getElem? (i := 1242) (by decide +kernel)) rfl
theorem kL_22 : CallV RL 22 yX12_set iX12_set 2 := ⟨mw_1240, mw_1241, mw_1242, mw_92, mw_1243, by decide +kernel, by decide⟩
theorem mw_484 : Cond.methodLink RL 23 yX11_setting ∈ lw_g := lw_in (List.mem_of_getElem? (i := 484) (by decide +kernel)) rfl
theorem mw_487 : Cond.code yX11_setting cX11_setting 2 (some .int) ∈ lw_g := lw_in (List.mem_of_getElem? (i := 487) (by decide +kernel)) rfl
theorem mw_485 : Cond.instanceMethod yX11_setting ∈ lw_g := lw_in (List.mem_of_getElem? (i := 485) (by decide +kernel)) rfl
theorem mw_486 : Cond.selects RX11 yX11_setting yX11_setting ∈ lw_g := lw_in (List.mem_of_getElem? (i := 486) (by decide +kernel)) rfl
theorem kL_23 : CallV RL 23 yX11_setting iX11_setting 1 := ⟨mw_484, mw_485, mw_486, mw_76, mw_487, by decide +kernel, by decide⟩
theorem mw_1257 : Cond.methodLink RL 26 yX12_setting ∈ lw_g := lw_in (List.mem_of_getElem? (i := 1257) (by decide +kernel)) rfl
theorem mw_1260 : Cond.code yX12_setting cX12_setting 2 (some .int) ∈ lw_g := lw_in (List.mem_of_getElem? (i := 1260) (by decide +kernel)) rfl
theorem mw_1258 : Cond.instanceMethod yX12_setting ∈ lw_g := lw_in (List.mem_of_getElem? (i := 1258) (by decide +kernel)) rfl
theorem mw_1259 : Cond.selects RX12 yX12_setting yX12_setting ∈ lw_g := lw_in (List.mem_of_getElem? (i := 1259) (by decide +kernel)) rfl
theorem kL_26 : CallV RL 26 yX12_setting iX12_setting 1 := ⟨mw_1257, mw_1258, mw_1259, mw_92, mw_1260, by decide +kernel, by decide⟩
theorem mw_489 : Cond.methodLink RL 27 yX11_enter ∈ lw_g := lw_in (List.mem_of_getElem? (i := 489) (by decide +kernel)) rfl
theorem mw_492 : Cond.code yX11_enter cX11_enter 3 (some .int) ∈ lw_g := lw_in (List.mem_of_getElem? (i := 492) (by decide +kernel)) rfl
theorem mw_490 : Cond.instanceMethod yX11_enter ∈ lw_g := lw_in (List.mem_of_getElem? (i := 490) (by decide +kernel)) rfl
theorem mw_491 : Cond.selects RX11 yX11_enter yX11_enter ∈ lw_g := lw_in (List.mem_of_getElem? (i := 491) (by decide +kernel)) rfl
theorem kL_27 : CallV RL 27 yX11_enter iX11_enter 2 := ⟨mw_489, mw_490, mw_491, mw_76, mw_492, by decide +kernel, by decide⟩
theorem mw_1262 : Cond.methodLink RL 30 yX12_enter ∈ lw_g := lw_in (List.mem_of_getElem? (i := 1262) (by decide +kernel)) rfl
theorem kL_30 : CallV RL 30 yX12_enter iX12_enter 2 := ⟨mw_1262, mw_1263, mw_1264, mw_92, mw_1265, by decide +kernel, by decide⟩
theorem mw_694 : Cond.methodLink RL 31 yX11_exit ∈ lw_g := lw_in (List.mem_of_getElem? (i := 694) (by decide +kernel)) rfl
theorem mw_697 : Cond.code yX11_exit cX11_exit 3 (some .int) ∈ lw_g := lw_in (List.mem_of_getElem? (i := 697) (by decide +kernel)) rfl
theorem mw_695 : Cond.instanceMethod yX11_exit ∈ lw_g := lw_in (List.mem_of_getElem? (i := 695) (by decide +kernel)) rfl
theorem mw_696 : Cond.selects RX11 yX11_exit yX11_exit ∈ lw_g := lw_in (List.mem_of_getElem? (i := 696) (by decide +kernel)) rfl
theorem kL_31 : CallV RL 31 yX11_exit iX11_exit 2 := ⟨mw_694, mw_695, mw_696, mw_76, mw_697, by decide +kernel, by decide⟩
theorem mw_1325 : Cond.methodLink RL 34 yX12_exit ∈ lw_g := lw_in (List.mem_of_getElem? (i := 1325) (by decide +kernel)) rfl
theorem kL_34 : CallV RL 34 yX12_exit iX12_exit 2 := ⟨mw_1325, mw_1326, mw_1327, mw_92, mw_1328, by decide +kernel, by decide⟩
theorem mw_698 : Cond.methodLink RL 35 yX11_await ∈ lw_g := lw_in (List.mem_of_getElem? (i := 698) (by decide +kernel)) rfl
theorem mw_701 : Cond.code yX11_await cX11_await 4 (some .int) ∈ lw_g := lw_in (List.mem_of_getElem? (i := 701) (by decide +kernel)) rfl
theorem mw_699 : Cond.instanceMethod yX11_await ∈ lw_g := lw_in (List.mem_of_getElem? (i := 699) (by decide +kernel)) rfl
theorem mw_700 : Cond.selects RX11 yX11_await yX11_await ∈ lw_g := lw_in (List.mem_of_getElem? (i := 700) (by decide +kernel)) rfl
theorem kL_35 : CallV RL 35 yX11_await iX11_await 3 := ⟨mw_698, mw_699, mw_700, mw_76, mw_701, by decide +kernel, by decide⟩
theorem mw_1345 : Cond.methodLink RL 39 yX12_await ∈ lw_g := lw_in (List.mem_of_getElem? (i := 1345) (by decide +kernel)) rfl
theorem kL_39 : CallV RL 39 yX12_await iX12_await 3 := ⟨mw_1345, mw_1346, mw_1347, mw_92, mw_1348, by decide +kernel, by decide⟩
theorem mw_702 : Cond.methodLink RL 40 yX11_signal ∈ lw_g := lw_in (List.mem_of_getElem? (i := 702) (by decide +kernel)) rfl
theorem mw_705 : Cond.code yX11_signal cX11_signal 3 (some .int) ∈ lw_g := lw_in (List.mem_of_getElem? (i := 705) (by decide +kernel)) rfl
theorem mw_703 : Cond.instanceMethod yX11_signal ∈ lw_g := lw_in (List.mem_of_getElem? (i := 703) (by decide +kernel)) rfl
theorem mw_704 : Cond.selects RX11 yX11_signal yX11_signal ∈ lw_g := lw_in (List.mem_of_getElem? (i := 704) (by decide +kernel)) rfl
theorem kL_40 : CallV RL 40 yX11_signal iX11_signal 2 := ⟨mw_702, mw_703, mw_704, mw_76, mw_705, by decide +kernel, by decide⟩
theorem mw_1349 : Cond.methodLink RL 43 yX12_signal ∈ lw_g := lw_in (List.mem_of_getElem? (i := 1349) (by decide +kernel)) rfl
theorem kL_43 : CallV RL 43 yX12_signal iX12_signal 2 := ⟨mw_1349, mw_1350, mw_1351, mw_92, mw_1352, by decide +kernel, by decide⟩
theorem mw_706 : Cond.methodLink RL 44 yX11_signalAll ∈ lw_g := lw_in (List.mem_of_getElem? (i := 706) (by decide +kernel)) rfl
theorem mw_709 : Cond.code yX11_signalAll cX11_signalAll 3 (some .int) ∈ lw_g := lw_in (List.mem_of_getElem? (i := 709) (by decide +kernel)) rfl
theorem mw_707 : Cond.instanceMethod yX11_signalAll ∈ lw_g := lw_in (List.mem_of_getElem? (i := 707) (by decide +kernel)) rfl
theorem mw_708 : Cond.selects RX11 yX11_signalAll yX11_signalAll ∈ lw_g := lw_in (List.mem_of_getElem? (i := 708) (by decide +kernel)) rfl
theorem kL_44 : CallV RL 44 yX11_signalAll iX11_signalAll 2 := ⟨mw_706, mw_707, mw_708, mw_76, mw_709, by decide +kernel, by decide⟩
theorem mw_1361 : Cond.methodLink RL 47 yX12_signalAll ∈ lw_g := lw_in (List.mem_of_getElem? (i := 1361) (by decide +kernel)) rfl
theorem kL_47 : CallV RL 47 yX12_signalAll iX12_signalAll 2 := ⟨mw_1361, mw_1362, mw_1363, mw_92, mw_1364, by decide +kernel, by decide⟩
theorem mw_710 : Cond.methodLink RL 48 yX11_interrupt ∈ lw_g := lw_in (List.mem_of_getElem? (i := 710) (by decide +kernel)) rfl
theorem mw_713 : Cond.code yX11_interrupt cX11_interrupt 2 (some .int) ∈ lw_g := lw_in (List.mem_of_getElem? (i := 713) (by decide +kernel)) rfl
theorem mw_711 : Cond.instanceMethod yX11_interrupt ∈ lw_g := lw_in (List.mem_of_getElem? (i := 711) (by decide +kernel)) rfl
theorem mw_712 : Cond.selects RX11 yX11_interrupt yX11_interrupt ∈ lw_g := lw_in (List.mem_of_getElem? (i := 712) (by decide +kernel)) rfl
theorem kL_48 : CallV RL 48 yX11_interrupt iX11_interrupt 1 := ⟨mw_710, mw_711, mw_712, mw_76, mw_713, by decide +kernel, by decide⟩
theorem mw_1365 : Cond.methodLink RL 51 yX12_interrupt ∈ lw_g := lw_in (List.mem_of_getElem? (i := 1365) (by decide +kernel)) rfl
theorem kL_51 : CallV RL 51 yX12_interrupt iX12_interrupt 1 := ⟨mw_1365, mw_1366, mw_1367, mw_92, mw_1368, by decide +kernel, by decide⟩
theorem mw_714 : Cond.methodLink RL 52 yX11_die ∈ lw_g := lw_in (List.mem_of_getElem? (i := 714) (by decide +kernel)) rfl
theorem mw_717 : Cond.code yX11_die cX11_die 2 (some .int) ∈ lw_g := lw_in (List.mem_of_getElem? (i := 717) (by decide +kernel)) rfl
theorem mw_715 : Cond.instanceMethod yX11_die ∈ lw_g := lw_in (List.mem_of_getElem? (i := 715) (by decide +kernel)) rfl
theorem mw_716 : Cond.selects RX11 yX11_die yX11_die ∈ lw_g := lw_in (List.mem_of_getElem? (i := 716) (by decide +kernel)) rfl
theorem kL_52 : CallV RL 52 yX11_die iX11_die 1 := ⟨mw_714, mw_715, mw_716, mw_76, mw_717, by decide +kernel, by decide⟩
theorem mw_1369 : Cond.methodLink RL 55 yX12_die ∈ lw_g := lw_in (List.mem_of_getElem? (i := 1369) (by decide +kernel)) rfl
theorem kL_55 : CallV RL 55 yX12_die iX12_die 1 := ⟨mw_1369, mw_1370, mw_1371, mw_92, mw_1372, by decide +kernel, by decide⟩
theorem mw_718 : Cond.methodLink RL 56 yX11_start ∈ lw_g := lw_in (List.mem_of_getElem? (i := 718) (by decide +kernel)) rfl
theorem mw_721 : Cond.code yX11_start cX11_start 2 (some .int) ∈ lw_g := lw_in (List.mem_of_getElem? (i := 721) (by decide +kernel)) rfl
theorem mw_719 : Cond.instanceMethod yX11_start ∈ lw_g := lw_in (List.mem_of_getElem? (i := 719) (by decide +kernel)) rfl
theorem mw_720 : Cond.selects RX11 yX11_start yX11_start ∈ lw_g := lw_in (List.mem_of_getElem? (i := 720) (by decide +kernel)) rfl
theorem kL_56 : CallV RL 56 yX11_start iX11_start 1 := ⟨mw_718, mw_719, mw_720, mw_76, mw_721, by decide +kernel, by decide⟩
theorem mw_1373 : Cond.methodLink RL 59 yX12_start ∈ lw_g := lw_in (List.mem_of_getElem? (i := 1373) (by decide +kernel)) rfl
theorem kL_59 : CallV RL 59 yX12_start iX12_start 1 := ⟨mw_1373, mw_1374, mw_1375, mw_92, mw_1376, by decide +kernel, by decide⟩
theorem mw_722 : Cond.methodLink RL 60 yX11_hash ∈ lw_g := lw_in (List.mem_of_getElem? (i := 722) (by decide +kernel)) rfl
theorem mw_725 : Cond.code yX11_hash cX11_hash 2 (some .int) ∈ lw_g := lw_in (List.mem_of_getElem? (i := 725) (by decide +kernel)) rfl
theorem mw_723 : Cond.instanceMethod yX11_hash ∈ lw_g := lw_in (List.mem_of_getElem? (i := 723) (by decide +kernel)) rfl
theorem mw_724 : Cond.selects RX11 yX11_hash yX11_hash ∈ lw_g := lw_in (List.mem_of_getElem? (i := 724) (by decide +kernel)) rfl
theorem kL_60 : CallV RL 60 yX11_hash iX11_hash 1 := ⟨mw_722, mw_723, mw_724, mw_76, mw_725, by decide +kernel, by decide⟩
theorem mw_1377 : Cond.methodLink RL 63 yX12_hash ∈ lw_g := lw_in (List.mem_of_getElem? (i := 1377) (by decide +kernel)) rfl
theorem kL_63 : CallV RL 63 yX12_hash iX12_hash 1 := ⟨mw_1377, mw_1378, mw_1379, mw_92, mw_1380, by decide +kernel, by decide⟩
theorem mw_726 : Cond.methodLink RL 64 yX11_tick ∈ lw_g := lw_in (List.mem_of_getElem? (i := 726) (by decide +kernel)) rfl
theorem mw_729 : Cond.code yX11_tick cX11_tick 2 (some .int) ∈ lw_g := lw_in (List.mem_of_getElem? (i := 729) (by decide +kernel)) rfl
theorem mw_727 : Cond.instanceMethod yX11_tick ∈ lw_g := lw_in (List.mem_of_getElem? (i := 727) (by decide +kernel)) rfl
theorem mw_728 : Cond.selects RX11 yX11_tick yX11_tick ∈ lw_g := lw_in (List.mem_of_getElem? (i := 728) (by decide +kernel)) rfl
theorem kL_64 : CallV RL 64 yX11_tick iX11_tick 1 := ⟨mw_726, mw_727, mw_728, mw_76, mw_729, by decide +kernel, by decide⟩
theorem mw_1381 : Cond.methodLink RL 67 yX12_tick ∈ lw_g := lw_in (List.mem_of_getElem? (i := 1381) (by decide +kernel)) rfl
theorem kL_67 : CallV RL 67 yX12_tick iX12_tick 1 := ⟨mw_1381, mw_1382, mw_1383, mw_92, mw_1384, by decide +kernel, by decide⟩
theorem mw_730 : Cond.methodLink RL 68 yX11_threads ∈ lw_g := lw_in (List.mem_of_getElem? (i := 730) (by decide +kernel)) rfl
theorem mw_733 : Cond.code yX11_threads cX11_threads 1 (some .int) ∈ lw_g := lw_in (List.mem_of_getElem? (i := 733) (by decide +kernel)) rfl
theorem mw_731 : Cond.instanceMethod yX11_threads ∈ lw_g := lw_in (List.mem_of_getElem? (i := 731) (by decide +kernel)) rfl
theorem mw_732 : Cond.selects RX11 yX11_threads yX11_threads ∈ lw_g := lw_in (List.mem_of_getElem? (i := 732) (by decide +kernel)) rfl
theorem kL_68 : CallV RL 68 yX11_threads iX11_threads 0 := ⟨mw_730, mw_731, mw_732, mw_76, mw_733, by decide +kernel, by decide⟩
theorem mw_1389 : Cond.methodLink RL 72 yX12_threads ∈ lw_g := lw_in (List.mem_of_getElem? (i := 1389) (by decide +kernel)) rfl
theorem mw_1392 : Cond.code yX12_threads cX12_threads 1 (some .int) ∈ lw_g := lw_in (List.mem_of_getElem? (i := 1392) (by decide +kernel)) rfl
theorem mw_1390 : Cond.instanceMethod yX12_threads ∈ lw_g := lw_in (List.mem_of_getElem? (i := 1390) (by decide +kernel)) rfl
theorem mw_1391 : Cond.selects RX12 yX12_threads yX12_threads ∈ lw_g := lw_in (List.mem_of_getElem? (i := 1391) (by decide +kernel)) rfl
theorem kL_72 : CallV RL 72 yX12_threads iX12_threads 0 := ⟨mw_1389, mw_1390, mw_1391, mw_92, mw_1392, by decide +kernel, by decide⟩
theorem mw_734 : Cond.methodLink RL 73 yX11_threadState ∈ lw_g := lw_in (List.mem_of_getElem? (i := 734) (by decide +kernel)) rfl
theorem mw_737 : Cond.code yX11_threadState cX11_threadState 3 (some .int) ∈ lw_g := lw_in (List.mem_of_getElem? (i := 737) (by decide +kernel)) rfl
theorem mw_735 : Cond.instanceMethod yX11_threadState ∈ lw_g := lw_in (List.mem_of_getElem? (i := 735) (by decide +kernel)) rfl
theorem mw_736 : Cond.selects RX11 yX11_threadState yX11_threadState ∈ lw_g := lw_in (List.mem_of_getElem? (i := 736) (by decide +kernel)) rfl
theorem kL_73 : CallV RL 73 yX11_threadState iX11_threadState 1 := ⟨mw_734, mw_735, mw_736, mw_76, mw_737, by decide +kernel, by decide⟩
theorem mw_1393 : Cond.methodLink RL 76 yX12_threadState ∈ lw_g := lw_in (List.mem_of_getElem? (i := 1393) (by decide +kernel)) rfl
theorem mw_1396 : Cond.code yX12_threadState cX12_threadState 2 (some .int) ∈ lw_g := lw_in (List.mem_of_getElem? (i := 1396) (by decide +kernel)) rfl
theorem mw_1394 : Cond.instanceMethod yX12_threadState ∈ lw_g := lw_in (List.mem_of_getElem? (i := 1394) (by decide +kernel)) rfl
theorem mw_1395 : Cond.selects RX12 yX12_threadState yX12_threadState ∈ lw_g := lw_in (List.mem_of_getElem? (i := 1395) (by decide +kernel)) rfl
theorem kL_76 : CallV RL 76 yX12_threadState iX12_threadState 1 := ⟨mw_1393, mw_1394, mw_1395, mw_92, mw_1396, by decide +kernel, by decide⟩
theorem mw_739 : Cond.methodLink RL 77 yX11_threadAt ∈ lw_g := lw_in (List.mem_of_getElem? (i := 739) (by decide +kernel)) rfl
theorem mw_742 : Cond.code yX11_threadAt cX11_threadAt 2 (some .int) ∈ lw_g := lw_in (List.mem_of_getElem? (i := 742) (by decide +kernel)) rfl
theorem mw_740 : Cond.instanceMethod yX11_threadAt ∈ lw_g := lw_in (List.mem_of_getElem? (i := 740) (by decide +kernel)) rfl
theorem mw_741 : Cond.selects RX11 yX11_threadAt yX11_threadAt ∈ lw_g := lw_in (List.mem_of_getElem? (i := 741) (by decide +kernel)) rfl
theorem kL_77 : CallV RL 77 yX11_threadAt iX11_threadAt 1 := ⟨mw_739, mw_740, mw_741, mw_76, mw_742, by decide +kernel, by decide⟩
theorem mw_1397 : Cond.methodLink RL 80 yX12_threadAt ∈ lw_g := lw_in (List.mem_of_getElem? (i := 1397) (by decide +kernel)) rfl
theorem mw_1400 : Cond.code yX12_threadAt cX12_threadAt 2 (some .int) ∈ lw_g := lw_in (List.mem_of_getElem? (i := 1400) (by decide +kernel)) rfl
theorem mw_1398 : Cond.instanceMethod yX12_threadAt ∈ lw_g := lw_in (List.mem_of_getElem? (i := 1398) (by decide +kernel)) rfl
theorem mw_1399 : Cond.selects RX12 yX12_threadAt yX12_threadAt ∈ lw_g := lw_in (List.mem_of_getElem? (i := 1399) (by decide +kernel)) rfl
theorem kL_80 : CallV RL 80 yX12_threadAt iX12_threadAt 1 := ⟨mw_1397, mw_1398, mw_1399, mw_92, mw_1400, by decide +kernel, by decide⟩
theorem mw_743 : Cond.methodLink RL 81 yX11_held ∈ lw_g := lw_in (List.mem_of_getElem? (i := 743) (by decide +kernel)) rfl
theorem mw_746 : Cond.code yX11_held cX11_held 4 (some .int) ∈ lw_g := lw_in (List.mem_of_getElem? (i := 746) (by decide +kernel)) rfl
theorem mw_744 : Cond.instanceMethod yX11_held ∈ lw_g := lw_in (List.mem_of_getElem? (i := 744) (by decide +kernel)) rfl
theorem mw_745 : Cond.selects RX11 yX11_held yX11_held ∈ lw_g := lw_in (List.mem_of_getElem? (i := 745) (by decide +kernel)) rfl
theorem kL_81 : CallV RL 81 yX11_held iX11_held 1 := ⟨mw_743, mw_744, mw_745, mw_76, mw_746, by decide +kernel, by decide⟩
theorem mw_1401 : Cond.methodLink RL 84 yX12_held ∈ lw_g := lw_in (List.mem_of_getElem? (i := 1401) (by decide +kernel)) rfl
theorem mw_1404 : Cond.code yX12_held cX12_held 4 (some .int) ∈ lw_g := lw_in (List.mem_of_getElem? (i := 1404) (by decide +kernel)) rfl
theorem mw_1402 : Cond.instanceMethod yX12_held ∈ lw_g := lw_in (List.mem_of_getElem? (i := 1402) (by decide +kernel)) rfl
theorem mw_1403 : Cond.selects RX12 yX12_held yX12_held ∈ lw_g := lw_in (List.mem_of_getElem? (i := 1403) (by decide +kernel)) rfl
theorem kL_84 : CallV RL 84 yX12_held iX12_held 1 := ⟨mw_1401, mw_1402, mw_1403, mw_92, mw_1404, by decide +kernel, by decide⟩
theorem mw_748 : Cond.methodLink RL 85 yX11_waitEnd ∈ lw_g := lw_in (List.mem_of_getElem? (i := 748) (by decide +kernel)) rfl
theorem mw_751 : Cond.code yX11_waitEnd cX11_waitEnd 2 (some .int) ∈ lw_g := lw_in (List.mem_of_getElem? (i := 751) (by decide +kernel)) rfl
theorem mw_749 : Cond.instanceMethod yX11_waitEnd ∈ lw_g := lw_in (List.mem_of_getElem? (i := 749) (by decide +kernel)) rfl
theorem mw_750 : Cond.selects RX11 yX11_waitEnd yX11_waitEnd ∈ lw_g := lw_in (List.mem_of_getElem? (i := 750) (by decide +kernel)) rfl
theorem kL_85 : CallV RL 85 yX11_waitEnd iX11_waitEnd 1 := ⟨mw_748, mw_749, mw_750, mw_76, mw_751, by decide +kernel, by decide⟩
theorem mw_1405 : Cond.methodLink RL 88 yX12_waitEnd ∈ lw_g := lw_in (List.mem_of_getElem? (i := 1405) (by decide +kernel)) rfl
theorem mw_1408 : Cond.code yX12_waitEnd cX12_waitEnd 2 (some .int) ∈ lw_g := lw_in (List.mem_of_getElem? (i := 1408) (by decide +kernel)) rfl
theorem mw_1406 : Cond.instanceMethod yX12_waitEnd ∈ lw_g := lw_in (List.mem_of_getElem? (i := 1406) (by decide +kernel)) rfl
theorem mw_1407 : Cond.selects RX12 yX12_waitEnd yX12_waitEnd ∈ lw_g := lw_in (List.mem_of_getElem? (i := 1407) (by decide +kernel)) rfl
theorem kL_88 : CallV RL 88 yX12_waitEnd iX12_waitEnd 1 := ⟨mw_1405, mw_1406, mw_1407, mw_92, mw_1408, by decide +kernel, by decide⟩
theorem mw_752 : Cond.methodLink RL 89 yX11_deadlocked ∈ lw_g := lw_in (List.mem_of_getElem? (i := 752) (by decide +kernel)) rfl
theorem mw_755 : Cond.code yX11_deadlocked cX11_deadlocked 3 (some .int) ∈ lw_g := lw_in (List.mem_of_getElem? (i := 755) (by decide +kernel)) rfl
theorem mw_753 : Cond.instanceMethod yX11_deadlocked ∈ lw_g := lw_in (List.mem_of_getElem? (i := 753) (by decide +kernel)) rfl
theorem mw_754 : Cond.selects RX11 yX11_deadlocked yX11_deadlocked ∈ lw_g := lw_in (List.mem_of_getElem? (i := 754) (by decide +kernel)) rfl
theorem kL_89 : CallV RL 89 yX11_deadlocked iX11_deadlocked 0 := ⟨mw_752, mw_753, mw_754, mw_76, mw_755, by decide +kernel, by decide⟩
theorem mw_1409 : Cond.methodLink RL 92 yX12_deadlocked ∈ lw_g := lw_in (List.mem_of_getElem? (i := 1409) (by decide +kernel)) rfl
theorem mw_1412 : Cond.code yX12_deadlocked cX12_deadlocked 5 (some .int) ∈ lw_g := lw_in (List.mem_of_getElem? (i := 1412) (by decide +kernel)) rfl
theorem mw_1410 : Cond.instanceMethod yX12_deadlocked ∈ lw_g := lw_in (List.mem_of_getElem? (i := 1410) (by decide +kernel)) rfl
theorem mw_1411 : Cond.selects RX12 yX12_deadlocked yX12_deadlocked ∈ lw_g := lw_in (List.mem_of_getElem? (i := 1411) (by decide +kernel)) rfl
theorem kL_92 : CallV RL 92 yX12_deadlocked iX12_deadlocked 0 := ⟨mw_1409, mw_1410, mw_1411, mw_92, mw_1412, by decide +kernel, by decide⟩
theorem mw_764 : Cond.methodLink RL 93 yX11_lockState ∈ lw_g := lw_in (List.mem_of_getElem? (i := 764) (by decide +kernel)) rfl
theorem mw_767 : Cond.code yX11_lockState cX11_lockState 3 (some .int) ∈ lw_g := lw_in (List.mem_of_getElem? (i := 767) (by decide +kernel)) rfl
theorem mw_765 : Cond.instanceMethod yX11_lockState ∈ lw_g := lw_in (List.mem_of_getElem? (i := 765) (by decide +kernel)) rfl
theorem mw_766 : Cond.selects RX11 yX11_lockState yX11_lockState ∈ lw_g := lw_in (List.mem_of_getElem? (i := 766) (by decide +kernel)) rfl
theorem kL_93 : CallV RL 93 yX11_lockState iX11_lockState 1 := ⟨mw_764, mw_765, mw_766, mw_76, mw_767, by decide +kernel, by decide⟩
theorem mw_1417 : Cond.methodLink RL 96 yX12_lockState ∈ lw_g := lw_in (List.mem_of_getElem? (i := 1417) (by decide +kernel)) rfl
theorem mw_1420 : Cond.code yX12_lockState cX12_lockState 2 (some .int) ∈ lw_g := lw_in (List.mem_of_getElem? (i := 1420) (by decide +kernel)) rfl
theorem mw_1418 : Cond.instanceMethod yX12_lockState ∈ lw_g := lw_in (List.mem_of_getElem? (i := 1418) (by decide +kernel)) rfl
theorem mw_1419 : Cond.selects RX12 yX12_lockState yX12_lockState ∈ lw_g := lw_in (List.mem_of_getElem? (i := 1419) (by decide +kernel)) rfl
theorem kL_96 : CallV RL 96 yX12_lockState iX12_lockState 1 := ⟨mw_1417, mw_1418, mw_1419, mw_92, mw_1420, by decide +kernel, by decide⟩
theorem mw_769 : Cond.methodLink RL 97 yX11_owner ∈ lw_g := lw_in (List.mem_of_getElem? (i := 769) (by decide +kernel)) rfl
theorem mw_772 : Cond.code yX11_owner cX11_owner 2 (some .int) ∈ lw_g := lw_in (List.mem_of_getElem? (i := 772) (by decide +kernel)) rfl
theorem mw_770 : Cond.instanceMethod yX11_owner ∈ lw_g := lw_in (List.mem_of_getElem? (i := 770) (by decide +kernel)) rfl
theorem mw_771 : Cond.selects RX11 yX11_owner yX11_owner ∈ lw_g := lw_in (List.mem_of_getElem? (i := 771) (by decide +kernel)) rfl
theorem kL_97 : CallV RL 97 yX11_owner iX11_owner 1 := ⟨mw_769, mw_770, mw_771, mw_76, mw_772, by decide +kernel, by decide⟩
theorem mw_1421 : Cond.methodLink RL 100 yX12_owner ∈ lw_g := lw_in (List.mem_of_getElem? (i := 1421) (by decide +kernel)) rfl
theorem mw_1424 : Cond.code yX12_owner cX12_owner 2 (some .int) ∈ lw_g := lw_in (List.mem_of_getElem? (i := 1424) (by decide +kernel)) rfl
theorem mw_1422 : Cond.instanceMethod yX12_owner ∈ lw_g := lw_in (List.mem_of_getElem? (i := 1422) (by decide +kernel)) rfl
theorem mw_1423 : Cond.selects RX12 yX12_owner yX12_owner ∈ lw_g := lw_in (List.mem_of_getElem? (i := 1423) (by decide +kernel)) rfl
theorem kL_100 : CallV RL 100 yX12_owner iX12_owner 1 := ⟨mw_1421, mw_1422, mw_1423, mw_92, mw_1424, by decide +kernel, by decide⟩
theorem mw_773 : Cond.methodLink RL 101 yX11_count ∈ lw_g := lw_in (List.mem_of_getElem? (i := 773) (by decide +kernel)) rfl
theorem mw_776 : Cond.code yX11_count cX11_count 2 (some .int) ∈ lw_g := lw_in (List.mem_of_getElem? (i := 776) (by decide +kernel)) rfl
theorem mw_774 : Cond.instanceMethod yX11_count ∈ lw_g := lw_in (List.mem_of_getElem? (i := 774) (by decide +kernel)) rfl
theorem mw_775 : Cond.selects RX11 yX11_count yX11_count ∈ lw_g := lw_in (List.mem_of_getElem? (i := 775) (by decide +kernel)) rfl
theorem kL_101 : CallV RL 101 yX11_count iX11_count 1 := ⟨mw_773, mw_774, mw_775, mw_76, mw_776, by decide +kernel, by decide⟩
theorem mw_1425 : Cond.methodLink RL 104 yX12_count ∈ lw_g := lw_in (List.mem_of_getElem? (i := 1425) (by decide +kernel)) rfl
theorem mw_1428 : Cond.code yX12_count cX12_count 2 (some .int) ∈ lw_g := lw_in (List.mem_of_getElem? (i := 1428) (by decide +kernel)) rfl
theorem mw_1426 : Cond.instanceMethod yX12_count ∈ lw_g := lw_in (List.mem_of_getElem? (i := 1426) (by decide +kernel)) rfl
theorem mw_1427 : Cond.selects RX12 yX12_count yX12_count ∈ lw_g := lw_in (List.mem_of_getElem? (i := 1427) (by decide +kernel)) rfl
theorem kL_104 : CallV RL 104 yX12_count iX12_count 1 := ⟨mw_1425, mw_1426, mw_1427, mw_92, mw_1428, by decide +kernel, by decide⟩
theorem mw_777 : Cond.methodLink RL 105 yX11_bias ∈ lw_g := lw_in (List.mem_of_getElem? (i := 777) (by decide +kernel)) rfl
theorem mw_780 : Cond.code yX11_bias cX11_bias 3 (some .int) ∈ lw_g := lw_in (List.mem_of_getElem? (i := 780) (by decide +kernel)) rfl
theorem mw_778 : Cond.instanceMethod yX11_bias ∈ lw_g := lw_in (List.mem_of_getElem? (i := 778) (by decide +kernel)) rfl
theorem mw_779 : Cond.selects RX11 yX11_bias yX11_bias ∈ lw_g := lw_in (List.mem_of_getElem? (i := 779) (by decide +kernel)) rfl
theorem kL_105 : CallV RL 105 yX11_bias iX11_bias 1 := ⟨mw_777, mw_778, mw_779, mw_76, mw_780, by decide +kernel, by decide⟩
theorem mw_1429 : Cond.methodLink RL 108 yX12_bias ∈ lw_g := lw_in (List.mem_of_getElem? (i := 1429) (by decide +kernel)) rfl
theorem mw_1432 : Cond.code yX12_bias cX12_bias 2 (some .int) ∈ lw_g := lw_in (List.mem_of_getElem? (i := 1432) (by decide +kernel)) rfl
theorem mw_1430 : Cond.instanceMethod yX12_bias ∈ lw_g := lw_in (List.mem_of_getElem? (i := 1430) (by decide +kernel)) rfl
theorem mw_1431 : Cond.selects RX12 yX12_bias yX12_bias ∈ lw_g := lw_in (List.mem_of_getElem? (i := 1431) (by decide +kernel)) rfl
theorem kL_108 : CallV RL 108 yX12_bias iX12_bias 1 := ⟨mw_1429, mw_1430, mw_1431, mw_92, mw_1432, by decide +kernel, by decide⟩
theorem mw_782 : Cond.methodLink RL 109 yX11_queued ∈ lw_g := lw_in (List.mem_of_getElem? (i := 782) (by decide +kernel)) rfl
theorem mw_785 : Cond.code yX11_queued cX11_queued 3 (some .int) ∈ lw_g := lw_in (List.mem_of_getElem? (i := 785) (by decide +kernel)) rfl
theorem mw_783 : Cond.instanceMethod yX11_queued ∈ lw_g := lw_in (List.mem_of_getElem? (i := 783) (by decide +kernel)) rfl
theorem mw_784 : Cond.selects RX11 yX11_queued yX11_queued ∈ lw_g := lw_in (List.mem_of_getElem? (i := 784) (by decide +kernel)) rfl
theorem kL_109 : CallV RL 109 yX11_queued iX11_queued 2 := ⟨mw_782, mw_783, mw_784, mw_76, mw_785, by decide +kernel, by decide⟩
theorem mw_1433 : Cond.methodLink RL 112 yX12_queued ∈ lw_g := lw_in (List.mem_of_getElem? (i := 1433) (by decide +kernel)) rfl
theorem mw_1436 : Cond.code yX12_queued cX12_queued 3 (some .int) ∈ lw_g := lw_in (List.mem_of_getElem? (i := 1436) (by decide +kernel)) rfl
theorem mw_1434 : Cond.instanceMethod yX12_queued ∈ lw_g := lw_in (List.mem_of_getElem? (i := 1434) (by decide +kernel)) rfl
theorem mw_1435 : Cond.selects RX12 yX12_queued yX12_queued ∈ lw_g := lw_in (List.mem_of_getElem? (i := 1435) (by decide +kernel)) rfl
theorem kL_112 : CallV RL 112 yX12_queued iX12_queued 2 := ⟨mw_1433, mw_1434, mw_1435, mw_92, mw_1436, by decide +kernel, by decide⟩
theorem mw_787 : Cond.methodLink RL 113 yX11_waiting ∈ lw_g := lw_in (List.mem_of_getElem? (i := 787) (by decide +kernel)) rfl
theorem mw_790 : Cond.code yX11_waiting cX11_waiting 3 (some .int) ∈ lw_g := lw_in (List.mem_of_getElem? (i := 790) (by decide +kernel)) rfl
theorem mw_788 : Cond.instanceMethod yX11_waiting ∈ lw_g := lw_in (List.mem_of_getElem? (i := 788) (by decide +kernel)) rfl
theorem mw_789 : Cond.selects RX11 yX11_waiting yX11_waiting ∈ lw_g := lw_in (List.mem_of_getElem? (i := 789) (by decide +kernel)) rfl
theorem kL_113 : CallV RL 113 yX11_waiting iX11_waiting 2 := ⟨mw_787, mw_788, mw_789, mw_76, mw_790, by decide +kernel, by decide⟩
theorem mw_1437 : Cond.methodLink RL 116 yX12_waiting ∈ lw_g := lw_in (List.mem_of_getElem? (i := 1437) (by decide +kernel)) rfl
theorem mw_1440 : Cond.code yX12_waiting cX12_waiting 3 (some .int) ∈ lw_g := lw_in (List.mem_of_getElem? (i := 1440) (by decide +kernel)) rfl
theorem mw_1438 : Cond.instanceMethod yX12_waiting ∈ lw_g := lw_in (List.mem_of_getElem? (i := 1438) (by decide +kernel)) rfl
theorem mw_1439 : Cond.selects RX12 yX12_waiting yX12_waiting ∈ lw_g := lw_in (List.mem_of_getElem? (i := 1439) (by decide +kernel)) rfl
theorem kL_116 : CallV RL 116 yX12_waiting iX12_waiting 2 := ⟨mw_1437, mw_1438, mw_1439, mw_92, mw_1440, by decide +kernel, by decide⟩
theorem mw_791 : Cond.methodLink RL 117 yX11_describe ∈ lw_g := lw_in (List.mem_of_getElem? (i := 791) (by decide +kernel)) rfl
theorem mw_794 : Cond.code yX11_describe cX11_describe 4 (some .int) ∈ lw_g := lw_in (List.mem_of_getElem? (i := 794) (by decide +kernel)) rfl
theorem mw_792 : Cond.instanceMethod yX11_describe ∈ lw_g := lw_in (List.mem_of_getElem? (i := 792) (by decide +kernel)) rfl
theorem mw_793 : Cond.selects RX11 yX11_describe yX11_describe ∈ lw_g := lw_in (List.mem_of_getElem? (i := 793) (by decide +kernel)) rfl
theorem kL_117 : CallV RL 117 yX11_describe iX11_describe 2 := ⟨mw_791, mw_792, mw_793, mw_76, mw_794, by decide +kernel, by decide⟩
theorem mw_1441 : Cond.methodLink RL 120 yX12_describe ∈ lw_g := lw_in (List.mem_of_getElem? (i := 1441) (by decide +kernel)) rfl
theorem mw_1444 : Cond.code yX12_describe cX12_describe 3 (some .int) ∈ lw_g := lw_in (List.mem_of_getElem? (i := 1444) (by decide +kernel)) rfl
theorem mw_1442 : Cond.instanceMethod yX12_describe ∈ lw_g := lw_in (List.mem_of_getElem? (i := 1442) (by decide +kernel)) rfl
theorem mw_1443 : Cond.selects RX12 yX12_describe yX12_describe ∈ lw_g := lw_in (List.mem_of_getElem? (i := 1443) (by decide +kernel)) rfl
theorem kL_120 : CallV RL 120 yX12_describe iX12_describe 2 := ⟨mw_1441, mw_1442, mw_1443, mw_92, mw_1444, by decide +kernel, by decide⟩
theorem mw_1010 : Cond.methodLink RL 121 yX11_type ∈ lw_g := lw_in (List.mem_of_getElem? (i := 1010) (by decide +kernel)) rfl
theorem mw_1013 : Cond.code yX11_type cX11_type 4 (some .int) ∈ lw_g := lw_in (List.mem_of_getElem? (i := 1013) (by decide +kernel)) rfl
theorem mw_1011 : Cond.instanceMethod yX11_type ∈ lw_g := lw_in (List.mem_of_getElem? (i := 1011) (by decide +kernel)) rfl
theorem mw_1012 : Cond.selects RX11 yX11_type yX11_type ∈ lw_g := lw_in (List.mem_of_getElem? (i := 1012) (by decide +kernel)) rfl
theorem kL_121 : CallV RL 121 yX11_type iX11_type 2 := ⟨mw_1010, mw_1011, mw_1012, mw_76, mw_1013, by decide +kernel, by decide⟩
theorem mw_1495 : Cond.methodLink RL 124 yX12_type ∈ lw_g := lw_in (List.mem_of_getElem? (i := 1495) (by decide +kernel)) rfl
theorem mw_1498 : Cond.code yX12_type cX12_type 3 (some .int) ∈ lw_g := lw_in (List.mem_of_getElem? (i := 1498) (by decide +kernel)) rfl
theorem mw_1496 : Cond.instanceMethod yX12_type ∈ lw_g := lw_in (List.mem_of_getElem? (i := 1496) (by decide +kernel)) rfl
theorem mw_1497 : Cond.selects RX12 yX12_type yX12_type ∈ lw_g := lw_in (List.mem_of_getElem? (i := 1497) (by decide +kernel)) rfl
theorem kL_124 : CallV RL 124 yX12_type iX12_type 2 := ⟨mw_1495, mw_1496, mw_1497, mw_92, mw_1498, by decide +kernel, by decide⟩
theorem mw_1014 : Cond.methodLink RL 125 yX11_time ∈ lw_g := lw_in (List.mem_of_getElem? (i := 1014) (by decide +kernel)) rfl
theorem mw_1017 : Cond.code yX11_time cX11_time 1 (some .int) ∈ lw_g := lw_in (List.mem_of_getElem? (i := 1017) (by decide +kernel)) rfl
theorem mw_1015 : Cond.instanceMethod yX11_time ∈ lw_g := lw_in (List.mem_of_getElem? (i := 1015) (by decide +kernel)) rfl
theorem mw_1016 : Cond.selects RX11 yX11_time yX11_time ∈ lw_g := lw_in (List.mem_of_getElem? (i := 1016) (by decide +kernel)) rfl
theorem kL_125 : CallV RL 125 yX11_time iX11_time 0 := ⟨mw_1014, mw_1015, mw_1016, mw_76, mw_1017, by decide +kernel, by decide⟩
theorem mw_1499 : Cond.methodLink RL 128 yX12_time ∈ lw_g := lw_in (List.mem_of_getElem? (i := 1499) (by decide +kernel)) rfl
theorem mw_1502 : Cond.code yX12_time cX12_time 1 (some .int) ∈ lw_g := lw_in (List.mem_of_getElem? (i := 1502) (by decide +kernel)) rfl
theorem mw_1500 : Cond.instanceMethod yX12_time ∈ lw_g := lw_in (List.mem_of_getElem? (i := 1500) (by decide +kernel)) rfl
theorem mw_1501 : Cond.selects RX12 yX12_time yX12_time ∈ lw_g := lw_in (List.mem_of_getElem? (i := 1501) (by decide +kernel)) rfl
theorem kL_128 : CallV RL 128 yX12_time iX12_time 0 := ⟨mw_1499, mw_1500, mw_1501, mw_92, mw_1502, by decide +kernel, by decide⟩
theorem mw_1018 : Cond.methodLink RL 129 yX11_monitors ∈ lw_g := lw_in (List.mem_of_getElem? (i := 1018) (by decide +kernel)) rfl
theorem mw_1021 : Cond.code yX11_monitors cX11_monitors 1 (some .int) ∈ lw_g := lw_in (List.mem_of_getElem? (i := 1021) (by decide +kernel)) rfl
theorem mw_1019 : Cond.instanceMethod yX11_monitors ∈ lw_g := lw_in (List.mem_of_getElem? (i := 1019) (by decide +kernel)) rfl
theorem mw_1020 : Cond.selects RX11 yX11_monitors yX11_monitors ∈ lw_g := lw_in (List.mem_of_getElem? (i := 1020) (by decide +kernel)) rfl
theorem kL_129 : CallV RL 129 yX11_monitors iX11_monitors 0 := ⟨mw_1018, mw_1019, mw_1020, mw_76, mw_1021, by decide +kernel, by decide⟩
theorem mw_1261 : Cond.methodLink RL 132 yX12_monitors ∈ lw_g := lw_in (List.mem_of_getElem? (i := 1261) (by decide +kernel)) rfl
theorem kL_132 : CallV RL 132 yX12_monitors iX12_monitors 0 := ⟨mw_1261, mw_1254, mw_1255, mw_92, mw_1256, by decide +kernel, by decide⟩
theorem mw_1022 : Cond.methodLink RL 133 yX11_counted ∈ lw_g := lw_in (List.mem_of_getElem? (i := 1022) (by decide +kernel)) rfl
theorem mw_1025 : Cond.code yX11_counted cX11_counted 2 (some .int) ∈ lw_g := lw_in (List.mem_of_getElem? (i := 1025) (by decide +kernel)) rfl
theorem mw_1023 : Cond.instanceMethod yX11_counted ∈ lw_g := lw_in (List.mem_of_getElem? (i := 1023) (by decide +kernel)) rfl
theorem mw_1024 : Cond.selects RX11 yX11_counted yX11_counted ∈ lw_g := lw_in (List.mem_of_getElem? (i := 1024) (by decide +kernel)) rfl
theorem kL_133 : CallV RL 133 yX11_counted iX11_counted 1 := ⟨mw_1022, mw_1023, mw_1024, mw_76, mw_1025, by decide +kernel, by decide⟩
theorem mw_1503 : Cond.methodLink RL 136 yX12_counted ∈ lw_g := lw_in (List.mem_of_getElem? (i := 1503) (by decide +kernel)) rfl
theorem mw_1506 : Cond.code yX12_counted cX12_counted 2 (some .int) ∈ lw_g := lw_in (List.mem_of_getElem? (i := 1506) (by decide +kernel)) rfl
theorem mw_1504 : Cond.instanceMethod yX12_counted ∈ lw_g := lw_in (List.mem_of_getElem? (i := 1504) (by decide +kernel)) rfl
theorem mw_1505 : Cond.selects RX12 yX12_counted yX12_counted ∈ lw_g := lw_in (List.mem_of_getElem? (i := 1505) (by decide +kernel)) rfl
theorem kL_136 : CallV RL 136 yX12_counted iX12_counted 1 := ⟨mw_1503, mw_1504, mw_1505, mw_92, mw_1506, by decide +kernel, by decide⟩
theorem mw_1026 : Cond.methodLink RL 137 yX11_cost ∈ lw_g := lw_in (List.mem_of_getElem? (i := 1026) (by decide +kernel)) rfl
theorem mw_1029 : Cond.code yX11_cost cX11_cost 1 (some .int) ∈ lw_g := lw_in (List.mem_of_getElem? (i := 1029) (by decide +kernel)) rfl
theorem mw_1027 : Cond.instanceMethod yX11_cost ∈ lw_g := lw_in (List.mem_of_getElem? (i := 1027) (by decide +kernel)) rfl
theorem mw_1028 : Cond.selects RX11 yX11_cost yX11_cost ∈ lw_g := lw_in (List.mem_of_getElem? (i := 1028) (by decide +kernel)) rfl
theorem kL_137 : CallV RL 137 yX11_cost iX11_cost 0 := ⟨mw_1026, mw_1027, mw_1028, mw_76, mw_1029, by decide +kernel, by decide⟩
theorem mw_1507 : Cond.methodLink RL 140 yX12_cost ∈ lw_g := lw_in (List.mem_of_getElem? (i := 1507) (by decide +kernel)) rfl
theorem kL_140 : CallV RL 140 yX12_cost iX12_cost 0 := ⟨mw_1507, mw_1508, mw_1509, mw_92, mw_1510, by decide +kernel, by decide⟩
theorem mw_1035 : Cond.methodLink RL 141 yX11_recorded ∈ lw_g := lw_in (List.mem_of_getElem? (i := 1035) (by decide +kernel)) rfl
theorem mw_1038 : Cond.code yX11_recorded cX11_recorded 1 (some .int) ∈ lw_g := lw_in (List.mem_of_getElem? (i := 1038) (by decide +kernel)) rfl
theorem mw_1036 : Cond.instanceMethod yX11_recorded ∈ lw_g := lw_in (List.mem_of_getElem? (i := 1036) (by decide +kernel)) rfl
theorem mw_1037 : Cond.selects RX11 yX11_recorded yX11_recorded ∈ lw_g := lw_in (List.mem_of_getElem? (i := 1037) (by decide +kernel)) rfl
theorem kL_141 : CallV RL 141 yX11_recorded iX11_recorded 0 := ⟨mw_1035, mw_1036, mw_1037, mw_76, mw_1038, by decide +kernel, by decide⟩
theorem mw_1511 : Cond.methodLink RL 144 yX12_recorded ∈ lw_g := lw_in (List.mem_of_getElem? (i := 1511) (by decide +kernel)) rfl
theorem mw_1514 : Cond.code yX12_recorded cX12_recorded 1 (some .int) ∈ lw_g := lw_in (List.mem_of_getElem? (i := 1514) (by decide +kernel)) rfl
theorem mw_1512 : Cond.instanceMethod yX12_recorded ∈ lw_g := lw_in (List.mem_of_getElem? (i := 1512) (by decide +kernel)) rfl
theorem mw_1513 : Cond.selects RX12 yX12_recorded yX12_recorded ∈ lw_g := lw_in (List.mem_of_getElem? (i := 1513) (by decide +kernel)) rfl
theorem kL_144 : CallV RL 144 yX12_recorded iX12_recorded 0 := ⟨mw_1511, mw_1512, mw_1513, mw_92, mw_1514, by decide +kernel, by decide⟩
theorem mw_1039 : Cond.methodLink RL 145 yX11_replayCost ∈ lw_g := lw_in (List.mem_of_getElem? (i := 1039) (by decide +kernel)) rfl
theorem mw_1042 : Cond.code yX11_replayCost cX11_replayCost 3 (some .int) ∈ lw_g := lw_in (List.mem_of_getElem? (i := 1042) (by decide +kernel)) rfl
theorem mw_1040 : Cond.instanceMethod yX11_replayCost ∈ lw_g := lw_in (List.mem_of_getElem? (i := 1040) (by decide +kernel)) rfl
theorem mw_1041 : Cond.selects RX11 yX11_replayCost yX11_replayCost ∈ lw_g := lw_in (List.mem_of_getElem? (i := 1041) (by decide +kernel)) rfl
theorem kL_145 : CallV RL 145 yX11_replayCost iX11_replayCost 2 := ⟨mw_1039, mw_1040, mw_1041, mw_76, mw_1042, by decide +kernel, by decide⟩
theorem mw_1515 : Cond.methodLink RL 148 yX12_replayCost ∈ lw_g := lw_in (List.mem_of_getElem? (i := 1515) (by decide +kernel)) rfl
theorem mw_1518 : Cond.code yX12_replayCost cX12_replayCost 3 (some .int) ∈ lw_g := lw_in (List.mem_of_getElem? (i := 1518) (by decide +kernel)) rfl
theorem mw_1516 : Cond.instanceMethod yX12_replayCost ∈ lw_g := lw_in (List.mem_of_getElem? (i := 1516) (by decide +kernel)) rfl
theorem mw_1517 : Cond.selects RX12 yX12_replayCost yX12_replayCost ∈ lw_g := lw_in (List.mem_of_getElem? (i := 1517) (by decide +kernel)) rfl
theorem kL_148 : CallV RL 148 yX12_replayCost iX12_replayCost 2 := ⟨mw_1515, mw_1516, mw_1517, mw_92, mw_1518, by decide +kernel, by decide⟩
theorem mw_1051 : Cond.methodLink RL 149 yX11_bestValue ∈ lw_g := lw_in (List.mem_of_getElem? (i := 1051) (by decide +kernel)) rfl
theorem mw_1054 : Cond.code yX11_bestValue cX11_bestValue 6 (some .int) ∈ lw_g := lw_in (List.mem_of_getElem? (i := 1054) (by decide +kernel)) rfl
theorem mw_1052 : Cond.instanceMethod yX11_bestValue ∈ lw_g := lw_in (List.mem_of_getElem? (i := 1052) (by decide +kernel)) rfl
theorem mw_1053 : Cond.selects RX11 yX11_bestValue yX11_bestValue ∈ lw_g := lw_in (List.mem_of_getElem? (i := 1053) (by decide +kernel)) rfl
theorem kL_149 : CallV RL 149 yX11_bestValue iX11_bestValue 1 := ⟨mw_1051, mw_1052, mw_1053, mw_76, mw_1054, by decide +kernel, by decide⟩
theorem mw_1538 : Cond.methodLink RL 152 yX12_bestValue ∈ lw_g := lw_in (List.mem_of_getElem? (i := 1538) (by decide +kernel)) rfl
theorem mw_1541 : Cond.code yX12_bestValue cX12_bestValue 6 (some .int) ∈ lw_g := lw_in (List.mem_of_getElem? (i := 1541) (by decide +kernel)) rfl
theorem mw_1539 : Cond.instanceMethod yX12_bestValue ∈ lw_g := lw_in (List.mem_of_getElem? (i := 1539) (by decide +kernel)) rfl
theorem mw_1540 : Cond.selects RX12 yX12_bestValue yX12_bestValue ∈ lw_g := lw_in (List.mem_of_getElem? (i := 1540) (by decide +kernel)) rfl
theorem kL_152 : CallV RL 152 yX12_bestValue iX12_bestValue 1 := ⟨mw_1538, mw_1539, mw_1540, mw_92, mw_1541, by decide +kernel, by decide⟩
theorem mw_1061 : Cond.methodLink RL 153 yX11_write ∈ lw_g := lw_in (List.mem_of_getElem? (i := 1061) (by decide +kernel)) rfl
theorem mw_1064 : Cond.code yX11_write cX11_write 2 (some .int) ∈ lw_g := lw_in (List.mem_of_getElem? (i := 1064) (by decide +kernel)) rfl
theorem mw_1062 : Cond.instanceMethod yX11_write ∈ lw_g := lw_in (List.mem_of_getElem? (i := 1062) (by decide +kernel)) rfl
theorem mw_1063 : Cond.selects RX11 yX11_write yX11_write ∈ lw_g := lw_in (List.mem_of_getElem? (i := 1063) (by decide +kernel)) rfl
theorem kL_153 : CallV RL 153 yX11_write iX11_write 1 := ⟨mw_1061, mw_1062, mw_1063, mw_76, mw_1064, by decide +kernel, by decide⟩
theorem mw_1542 : Cond.methodLink RL 156 yX12_write ∈ lw_g := lw_in (List.mem_of_getElem? (i := 1542) (by decide +kernel)) rfl
theorem mw_1545 : Cond.code yX12_write cX12_write 2 (some .int) ∈ lw_g := lw_in (List.mem_of_getElem? (i := 1545) (by decide +kernel)) rfl
theorem mw_1543 : Cond.instanceMethod yX12_write ∈ lw_g := lw_in (List.mem_of_getElem? (i := 1543) (by decide +kernel)) rfl
theorem mw_1544 : Cond.selects RX12 yX12_write yX12_write ∈ lw_g := lw_in (List.mem_of_getElem? (i := 1544) (by decide +kernel)) rfl
theorem kL_156 : CallV RL 156 yX12_write iX12_write 1 := ⟨mw_1542, mw_1543, mw_1544, mw_92, mw_1545, by decide +kernel, by decide⟩
theorem mw_1069 : Cond.methodLink RL 157 yX11_wipe ∈ lw_g := lw_in (List.mem_of_getElem? (i := 1069) (by decide +kernel)) rfl
theorem mw_1072 : Cond.code yX11_wipe cX11_wipe 2 (some .int) ∈ lw_g := lw_in (List.mem_of_getElem? (i := 1072) (by decide +kernel)) rfl
theorem mw_1070 : Cond.instanceMethod yX11_wipe ∈ lw_g := lw_in (List.mem_of_getElem? (i := 1070) (by decide +kernel)) rfl
theorem mw_1071 : Cond.selects RX11 yX11_wipe yX11_wipe ∈ lw_g := lw_in (List.mem_of_getElem? (i := 1071) (by decide +kernel)) rfl
theorem kL_157 : CallV RL 157 yX11_wipe iX11_wipe 0 := ⟨mw_1069, mw_1070, mw_1071, mw_76, mw_1072, by decide +kernel, by decide⟩
theorem mw_1546 : Cond.methodLink RL 160 yX12_wipe ∈ lw_g := lw_in (List.mem_of_getElem? (i := 1546) (by decide +kernel)) rfl
theorem mw_1549 : Cond.code yX12_wipe cX12_wipe 2 (some .int) ∈ lw_g := lw_in (List.mem_of_getElem? (i := 1549) (by decide +kernel)) rfl
theorem mw_1547 : Cond.instanceMethod yX12_wipe ∈ lw_g := lw_in (List.mem_of_getElem? (i := 1547) (by decide +kernel)) rfl
theorem mw_1548 : Cond.selects RX12 yX12_wipe yX12_wipe ∈ lw_g := lw_in (List.mem_of_getElem? (i := 1548) (by decide +kernel)) rfl
theorem kL_160 : CallV RL 160 yX12_wipe iX12_wipe 0 := ⟨mw_1546, mw_1547, mw_1548, mw_92, mw_1549, by decide +kernel, by decide⟩
theorem mw_1073 : Cond.methodLink RL 161 yX11_fault ∈ lw_g := lw_in (List.mem_of_getElem? (i := 1073) (by decide +kernel)) rfl
theorem mw_1076 : Cond.code yX11_fault cX11_fault 1 (some .int) ∈ lw_g := lw_in (List.mem_of_getElem? (i := 1076) (by decide +kernel)) rfl
theorem mw_1074 : Cond.instanceMethod yX11_fault ∈ lw_g := lw_in (List.mem_of_getElem? (i := 1074) (by decide +kernel)) rfl
theorem mw_1075 : Cond.selects RX11 yX11_fault yX11_fault ∈ lw_g := lw_in (List.mem_of_getElem? (i := 1075) (by decide +kernel)) rfl
theorem kL_161 : CallV RL 161 yX11_fault iX11_fault 0 := ⟨mw_1073, mw_1074, mw_1075, mw_76, mw_1076, by decide +kernel, by decide⟩
theorem mw_1550 : Cond.methodLink RL 164 yX12_fault ∈ lw_g := lw_in (List.mem_of_getElem? (i := 1550) (by decide +kernel)) rfl
theorem kL_164 : CallV RL 164 yX12_fault iX12_fault 0 := ⟨mw_1550, mw_1551, mw_1552, mw_92, mw_1553, by decide +kernel, by decide⟩
theorem mw_1140 : Cond.methodLink RL 165 yX11_run ∈ lw_g := lw_in (List.mem_of_getElem? (i := 1140) (by decide +kernel)) rfl
theorem mw_1143 : Cond.code yX11_run cX11_run 6 (some .int) ∈ lw_g := lw_in (List.mem_of_getElem? (i := 1143) (by decide +kernel)) rfl
theorem mw_1141 : Cond.instanceMethod yX11_run ∈ lw_g := lw_in (List.mem_of_getElem? (i := 1141) (by decide +kernel)) rfl
theorem mw_1142 : Cond.selects RX11 yX11_run yX11_run ∈ lw_g := lw_in (List.mem_of_getElem? (i := 1142) (by decide +kernel)) rfl
theorem kL_165 : CallV RL 165 yX11_run iX11_run 0 := ⟨mw_1140, mw_1141, mw_1142, mw_76, mw_1143, by decide +kernel, by decide⟩
theorem mw_1594 : Cond.methodLink RL 168 yX12_run ∈ lw_g := lw_in (List.mem_of_getElem? (i := 1594) (by decide +kernel)) rfl
theorem mw_1597 : Cond.code yX12_run cX12_run 4 (some .int) ∈ lw_g := lw_in (List.mem_of_getElem? (i := 1597) (by decide +kernel)) rfl
theorem mw_1595 : Cond.instanceMethod yX12_run ∈ lw_g := lw_in (List.mem_of_getElem? (i := 1595) (by decide +kernel)) rfl
theorem mw_1596 : Cond.selects RX12 yX12_run yX12_run ∈ lw_g := lw_in (List.mem_of_getElem? (i := 1596) (by decide +kernel)) rfl
theorem kL_168 : CallV RL 168 yX12_run iX12_run 0 := ⟨mw_1594, mw_1595, mw_1596, mw_92, mw_1597, by decide +kernel, by decide⟩
theorem mw_1150 : Cond.methodLink RL 169 yX11_save ∈ lw_g := lw_in (List.mem_of_getElem? (i := 1150) (by decide +kernel)) rfl
theorem mw_1153 : Cond.code yX11_save cX11_save 3 (some .int) ∈ lw_g := lw_in (List.mem_of_getElem? (i := 1153) (by decide +kernel)) rfl
theorem mw_1151 : Cond.instanceMethod yX11_save ∈ lw_g := lw_in (List.mem_of_getElem? (i := 1151) (by decide +kernel)) rfl
theorem mw_1152 : Cond.selects RX11 yX11_save yX11_save ∈ lw_g := lw_in (List.mem_of_getElem? (i := 1152) (by decide +kernel)) rfl
theorem kL_169 : CallV RL 169 yX11_save iX11_save 1 := ⟨mw_1150, mw_1151, mw_1152, mw_76, mw_1153, by decide +kernel, by decide⟩
theorem mw_1599 : Cond.methodLink RL 172 yX12_save ∈ lw_g := lw_in (List.mem_of_getElem? (i := 1599) (by decide +kernel)) rfl
theorem mw_1602 : Cond.code yX12_save cX12_save 3 (some .int) ∈ lw_g := lw_in (List.mem_of_getElem? (i := 1602) (by decide +kernel)) rfl
theorem mw_1600 : Cond.instanceMethod yX12_save ∈ lw_g := lw_in (List.mem_of_getElem? (i := 1600) (by decide +kernel)) rfl
theorem mw_1601 : Cond.selects RX12 yX12_save yX12_save ∈ lw_g := lw_in (List.mem_of_getElem? (i := 1601) (by decide +kernel)) rfl
theorem kL_172 : CallV RL 172 yX12_save iX12_save 1 := ⟨mw_1599, mw_1600, mw_1601, mw_92, mw_1602, by decide +kernel, by decide⟩
theorem mw_1182 : Cond.methodLink RL 173 yX11_restore ∈ lw_g := lw_in (List.mem_of_getElem? (i := 1182) (by decide +kernel)) rfl
theorem mw_1185 : Cond.code yX11_restore cX11_restore 3 (some .int) ∈ lw_g := lw_in (List.mem_of_getElem? (i := 1185) (by decide +kernel)) rfl
theorem mw_1183 : Cond.instanceMethod yX11_restore ∈ lw_g := lw_in (List.mem_of_getElem? (i := 1183) (by decide +kernel)) rfl
theorem mw_1184 : Cond.selects RX11 yX11_restore yX11_restore ∈ lw_g := lw_in (List.mem_of_getElem? (i := 1184) (by decide +kernel)) rfl
theorem kL_173 : CallV RL 173 yX11_restore iX11_restore 1 := ⟨mw_1182, mw_1183, mw_1184, mw_76, mw_1185, by decide +kernel, by decide⟩
theorem mw_1603 : Cond.methodLink RL 176 yX12_restore ∈ lw_g := lw_in (List.mem_of_getElem? (i := 1603) (by decide +kernel)) rfl
theorem mw_1606 : Cond.code yX12_restore cX12_restore 3 (some .int) ∈ lw_g := lw_in (List.mem_of_getElem? (i := 1606) (by decide +kernel)) rfl
theorem mw_1604 : Cond.instanceMethod yX12_restore ∈ lw_g := lw_in (List.mem_of_getElem? (i := 1604) (by decide +kernel)) rfl
theorem mw_1605 : Cond.selects RX12 yX12_restore yX12_restore ∈ lw_g := lw_in (List.mem_of_getElem? (i := 1605) (by decide +kernel)) rfl
theorem kL_176 : CallV RL 176 yX12_restore iX12_restore 1 := ⟨mw_1603, mw_1604, mw_1605, mw_92, mw_1606, by decide +kernel, by decide⟩
theorem mw_ac1 : Cond.native arraycopyName ∈ lw_g := lw_in (List.mem_of_getElem? (i := 125) (by decide +kernel)) rfl
theorem mw_ac2 : Cond.static arraycopyName ∈ lw_g := lw_in (List.mem_of_getElem? (i := 124) (by decide +kernel)) rfl
theorem mw_ac3 : Cond.initialized "java/lang/System" ∈ lw_g := lw_in (List.mem_of_getElem? (i := 79) (by decide +kernel)) rfl
theorem mw_aI : Cond.arrayClass .int ∈ lw_g := lw_in (List.mem_of_getElem? (i := 130) (by decide +kernel)) rfl
theorem mw_aB : Cond.arrayClass .byte ∈ lw_g := lw_in (List.mem_of_getElem? (i := 410) (by decide +kernel)) rfl
