theorem kJ5_3 : Cond.methodLink RJ5 3 objectInit ∈ lw_g := lw_in (List.mem_of_getElem? (i := 387) (by decide +kernel)) rfl
theorem mw_388 : Cond.fieldLink RJ5 18 "java/lang/String" "COMPACT_STRINGS" "Z" ∈ lw_g := lw_in (List.mem_of_getElem? (i := 388) (by decide +kernel)) rfl
theorem sJ5_18 : Cond.fieldLink RJ5 18 "java/lang/String" "COMPACT_STRINGS" "Z" ∈ lw_g := mw_388
theorem mw_397 : Cond.fieldLink RJ5 15 "java/lang/AbstractStringBuilder" "value" "[B" ∈ lw_g := lw_in (List.mem_of_getElem? (i := 397) (by decide +kernel)) rfl
theorem pJ5_15 : PutOK RJ5 15 0 0 (.array .byte) false := ⟨RJ4, TJ4, 4, tyJ4, rfl, by decide, inG0, mw_397, tyJ4_ok, nmJ4, rfl, by decide +kernel, fun h => by cases h⟩
theorem mw_398 : Cond.fieldLink RJ5 22 "java/lang/AbstractStringBuilder" "coder" "B" ∈ lw_g := lw_in (List.mem_of_getElem? (i := 398) (by decide +kernel)) rfl
theorem pJ5_22 : PutOK RJ5 22 0 1 .byte false := ⟨RJ4, TJ4, 4, tyJ4, rfl, by decide, inG0, mw_398, tyJ4_ok, nmJ4, rfl, by decide +kernel, fun h => by cases h⟩
theorem mw_390 : Cond.methodLink RJ5 26 yJ2_newBytesFor_77867 ∈ lw_g := lw_in (List.mem_of_getElem? (i := 390) (by decide +kernel)) rfl
theorem mw_90 : Cond.initialized RJ2 ∈ lw_g := lw_in (List.mem_of_getElem? (i := 90) (by decide +kernel)) rfl
theorem mw_392 : Cond.code yJ2_newBytesFor_77867 cJ2_newBytesFor_77867 1 (some (.array .byte)) ∈ lw_g := lw_in (List.mem_of_getElem? (i := 392) (by decide +kernel)) rfl
theorem mw_391 : Cond.static yJ2_newBytesFor_77867 ∈ lw_g := lw_in (List.mem_of_getElem? (i := 391) (by decide +kernel)) rfl
theorem kJ5_26 : CallS RJ5 26 yJ2_newBytesFor_77867 iJ2_newBytesFor_77867 1 := ⟨mw_390, mw_391, mw_90, mw_392, by decide +kernel, by decide⟩
theorem mw_400 : Cond.fieldLink RJ5 79 "java/lang/AbstractStringBuilder" "count" "I" ∈ lw_g := lw_in (List.mem_of_getElem? (i := 400) (by decide +kernel)) rfl
theorem fJ5_79 : FldOK RJ5 79 0 3 := ⟨RJ4, TJ4, 4, rfl, by decide, inG0, mw_400⟩
theorem fJ5_15 : FldOK RJ5 15 0 0 := ⟨RJ4, TJ4, 4, rfl, by decide, inG0, mw_397⟩
theorem fJ5_22 : FldOK RJ5 22 0 1 := ⟨RJ4, TJ4, 4, rfl, by decide, inG0, mw_398⟩
theorem mw_806 : Cond.methodLink RJ5 104 yJ5_newCapacity_0f7a4 ∈ lw_g := lw_in (List.mem_of_getElem? (i := 806) (by decide +kernel)) rfl
theorem mw_87 : Cond.initialized RJ5 ∈ lw_g := lw_in (List.mem_of_getElem? (i := 87) (by decide +kernel)) rfl
theorem mw_809 : Cond.code yJ5_newCapacity_0f7a4 cJ5_newCapacity_0f7a4 6 (some .int) ∈ lw_g := lw_in (List.mem_of_getElem? (i := 809) (by decide +kernel)) rfl
theorem mw_821 : Cond.methodLink RJ5 108 yJ7_copyOf_9075b ∈ lw_g := lw_in (List.mem_of_getElem? (i := 821) (by decide +kernel)) rfl
theorem mw_823 : Cond.code yJ7_copyOf_9075b cJ7_copyOf_9075b 3 (some (.array .byte)) ∈ lw_g := lw_in (List.mem_of_getElem? (i := 823) (by decide +kernel)) rfl
theorem mw_822 : Cond.static yJ7_copyOf_9075b ∈ lw_g := lw_in (List.mem_of_getElem? (i := 822) (by decide +kernel)) rfl
theorem kJ5_108 : CallS RJ5 108 yJ7_copyOf_9075b iJ7_copyOf_9075b 2 := ⟨mw_821, mw_822, mw_84, mw_823, by decide +kernel, by decide⟩
theorem mw_810 : Cond.methodLink RJ5 114 yJ8_newLength_cabcc ∈ lw_g := lw_in (List.mem_of_getElem? (i := 810) (by decide +kernel)) rfl
theorem mw_93 : Cond.initialized RJ8 ∈ lw_g := lw_in (List.mem_of_getElem? (i := 93) (by decide +kernel)) rfl
theorem mw_812 : Cond.code yJ8_newLength_cabcc cJ8_newLength_cabcc 4 (some .int) ∈ lw_g := lw_in (List.mem_of_getElem? (i := 812) (by decide +kernel)) rfl
theorem mw_811 : Cond.static yJ8_newLength_cabcc ∈ lw_g := lw_in (List.mem_of_getElem? (i := 811) (by decide +kernel)) rfl
theorem kJ5_114 : CallS RJ5 114 yJ8_newLength_cabcc iJ8_newLength_cabcc 3 := ⟨mw_810, mw_811, mw_93, mw_812, by decide +kernel, by decide⟩
theorem qJ5_39 : Cond.constant RJ5 39 (2147483647) ∈ lw_g := lw_in (List.mem_of_getElem? (i := 820) (by decide +kernel)) rfl
theorem mw_835 : Cond.methodLink RJ5 83 yJ5_isLatin1_aae02 ∈ lw_g := lw_in (List.mem_of_getElem? (i := 835) (by decide +kernel)) rfl
theorem mw_839 : Cond.code yJ5_isLatin1_aae02 cJ5_isLatin1_aae02 1 (some .boolean) ∈ lw_g := lw_in (List.mem_of_getElem? (i := 839) (by decide +kernel)) rfl
theorem mw_925 : Cond.methodLink RJ5 125 yJ1_inflate_0e8fd ∈ lw_g := lw_in (List.mem_of_getElem? (i := 925) (by decide +kernel)) rfl
theorem mw_95 : Cond.initialized RJ1 ∈ lw_g := lw_in (List.mem_of_getElem? (i := 95) (by decide +kernel)) rfl
theorem mw_927 : Cond.code yJ1_inflate_0e8fd cJ1_inflate_0e8fd 5 none ∈ lw_g := lw_in (List.mem_of_getElem? (i := 927) (by decide +kernel)) rfl
theorem mw_926 : Cond.static yJ1_inflate_0e8fd ∈ lw_g := lw_in (List.mem_of_getElem? (i := 926) (by decide +kernel)) rfl
theorem kJ5_125 : CallS RJ5 125 yJ1_inflate_0e8fd iJ1_inflate_0e8fd 5 := ⟨mw_925, mw_926, mw_95, mw_927, by decide +kernel, by decide⟩
theorem mw_802 : Cond.methodLink RJ5 100 yJ5_ensureCapacityInternal_d00df ∈ lw_g := lw_in (List.mem_of_getElem? (i := 802) (by decide +kernel)) rfl
theorem mw_805 : Cond.code yJ5_ensureCapacityInternal_d00df cJ5_ensureCapacityInternal_d00df 3 none ∈ lw_g := lw_in (List.mem_of_getElem? (i := 805) (by decide +kernel)) rfl
theorem mw_840 : Cond.methodLink RJ5 133 yJ1_fillNull_b72d1 ∈ lw_g := lw_in (List.mem_of_getElem? (i := 840) (by decide +kernel)) rfl
theorem mw_842 : Cond.code yJ1_fillNull_b72d1 cJ1_fillNull_b72d1 3 none ∈ lw_g := lw_in (List.mem_of_getElem? (i := 842) (by decide +kernel)) rfl
theorem mw_841 : Cond.static yJ1_fillNull_b72d1 ∈ lw_g := lw_in (List.mem_of_getElem? (i := 841) (by decide +kernel)) rfl
theorem kJ5_133 : CallS RJ5 133 yJ1_fillNull_b72d1 iJ1_fillNull_b72d1 3 := ⟨mw_840, mw_841, mw_95, mw_842, by decide +kernel, by decide⟩
theorem mw_849 : Cond.methodLink RJ5 137 yJ2_fillNull_b72d1 ∈ lw_g := lw_in (List.mem_of_getElem? (i := 849) (by decide +kernel)) rfl
theorem mw_851 : Cond.code yJ2_fillNull_b72d1 cJ2_fillNull_b72d1 3 none ∈ lw_g := lw_in (List.mem_of_getElem? (i := 851) (by decide +kernel)) rfl
theorem mw_850 : Cond.static yJ2_fillNull_b72d1 ∈ lw_g := lw_in (List.mem_of_getElem? (i := 850) (by decide +kernel)) rfl
theorem kJ5_137 : CallS RJ5 137 yJ2_fillNull_b72d1 iJ2_fillNull_b72d1 3 := ⟨mw_849, mw_850, mw_90, mw_851, by decide +kernel, by decide⟩
theorem mw_399 : Cond.fieldLink RJ5 73 "java/lang/AbstractStringBuilder" "maybeLatin1" "Z" ∈ lw_g := lw_in (List.mem_of_getElem? (i := 399) (by decide +kernel)) rfl
theorem pJ5_73 : PutOK RJ5 73 0 2 .boolean false := ⟨RJ4, TJ4, 4, tyJ4, rfl, by decide, inG0, mw_399, tyJ4_ok, nmJ4, rfl, by decide +kernel, fun h => by cases h⟩
theorem pJ5_79 : PutOK RJ5 79 0 3 .int false := ⟨RJ4, TJ4, 4, tyJ4, rfl, by decide, inG0, mw_400, tyJ4_ok, nmJ4, rfl, by decide +kernel, fun h => by cases h⟩
theorem mw_1000 : Cond.methodLink RJ5 138 yJ9_min_7cf53 ∈ lw_g := lw_in (List.mem_of_getElem? (i := 1000) (by decide +kernel)) rfl
theorem mw_833 : Cond.code yJ9_min_7cf53 cJ9_min_7cf53 2 (some .int) ∈ lw_g := lw_in (List.mem_of_getElem? (i := 833) (by decide +kernel)) rfl
theorem mw_832 : Cond.static yJ9_min_7cf53 ∈ lw_g := lw_in (List.mem_of_getElem? (i := 832) (by decide +kernel)) rfl
theorem kJ5_138 : CallS RJ5 138 yJ9_min_7cf53 iJ9_min_7cf53 2 := ⟨mw_1000, mw_832, mw_94, mw_833, by decide +kernel, by decide⟩
theorem mw_1001 : Cond.methodLink RJ5 144 yJ0_checkIndex_df160 ∈ lw_g := lw_in (List.mem_of_getElem? (i := 1001) (by decide +kernel)) rfl
theorem mw_1003 : Cond.code yJ0_checkIndex_df160 cJ0_checkIndex_df160 2 none ∈ lw_g := lw_in (List.mem_of_getElem? (i := 1003) (by decide +kernel)) rfl
theorem mw_1002 : Cond.static yJ0_checkIndex_df160 ∈ lw_g := lw_in (List.mem_of_getElem? (i := 1002) (by decide +kernel)) rfl
theorem kJ5_144 : CallS RJ5 144 yJ0_checkIndex_df160 iJ0_checkIndex_df160 2 := ⟨mw_1001, mw_1002, mw_89, mw_1003, by decide +kernel, by decide⟩
theorem mw_1007 : Cond.methodLink RJ5 148 yJ2_getChar_3b067 ∈ lw_g := lw_in (List.mem_of_getElem? (i := 1007) (by decide +kernel)) rfl
theorem mw_1009 : Cond.code yJ2_getChar_3b067 cJ2_getChar_3b067 2 (some .char) ∈ lw_g := lw_in (List.mem_of_getElem? (i := 1009) (by decide +kernel)) rfl
theorem mw_1008 : Cond.static yJ2_getChar_3b067 ∈ lw_g := lw_in (List.mem_of_getElem? (i := 1008) (by decide +kernel)) rfl
theorem kJ5_148 : CallS RJ5 148 yJ2_getChar_3b067 iJ2_getChar_3b067 2 := ⟨mw_1007, mw_1008, mw_90, mw_1009, by decide +kernel, by decide⟩
theorem mw_873 : Cond.methodLink RJ5 204 yJ5_appendNull_278bc ∈ lw_g := lw_in (List.mem_of_getElem? (i := 873) (by decide +kernel)) rfl
theorem mw_876 : Cond.code yJ5_appendNull_278bc cJ5_appendNull_278bc 3 (some (.object "java/lang/AbstractStringBuilder")) ∈ lw_g := lw_in (List.mem_of_getElem? (i := 876) (by decide +kernel)) rfl
theorem mw_903 : Cond.methodLink RJ5 32 yJ0_length_8abf5 ∈ lw_g := lw_in (List.mem_of_getElem? (i := 903) (by decide +kernel)) rfl
theorem kJ5_32 : CallV RJ5 32 yJ0_length_8abf5 iJ0_length_8abf5 0 := ⟨mw_903, mw_904, mw_905, mw_89, mw_906, by decide +kernel, by decide⟩
theorem mw_912 : Cond.methodLink RJ5 208 yJ5_putStringAt_47b60 ∈ lw_g := lw_in (List.mem_of_getElem? (i := 912) (by decide +kernel)) rfl
theorem mw_915 : Cond.code yJ5_putStringAt_47b60 cJ5_putStringAt_47b60 3 none ∈ lw_g := lw_in (List.mem_of_getElem? (i := 915) (by decide +kernel)) rfl
theorem mw_877 : Cond.methodLink RJ5 226 yJ2_putCharsAt_cd4e5 ∈ lw_g := lw_in (List.mem_of_getElem? (i := 877) (by decide +kernel)) rfl
theorem mw_879 : Cond.code yJ2_putCharsAt_cd4e5 cJ2_putCharsAt_cd4e5 7 (some .int) ∈ lw_g := lw_in (List.mem_of_getElem? (i := 879) (by decide +kernel)) rfl
theorem mw_878 : Cond.static yJ2_putCharsAt_cd4e5 ∈ lw_g := lw_in (List.mem_of_getElem? (i := 878) (by decide +kernel)) rfl
theorem kJ5_226 : CallS RJ5 226 yJ2_putCharsAt_cd4e5 iJ2_putCharsAt_cd4e5 6 := ⟨mw_877, mw_878, mw_90, mw_879, by decide +kernel, by decide⟩
theorem mw_954 : Cond.methodLink RJ5 245 yJ6_stringSize_0f7a4 ∈ lw_g := lw_in (List.mem_of_getElem? (i := 954) (by decide +kernel)) rfl
theorem mw_98 : Cond.initialized RJ6 ∈ lw_g := lw_in (List.mem_of_getElem? (i := 98) (by decide +kernel)) rfl
theorem mw_956 : Cond.code yJ6_stringSize_0f7a4 cJ6_stringSize_0f7a4 4 (some .int) ∈ lw_g := lw_in (List.mem_of_getElem? (i := 956) (by decide +kernel)) rfl
theorem mw_955 : Cond.static yJ6_stringSize_0f7a4 ∈ lw_g := lw_in (List.mem_of_getElem? (i := 955) (by decide +kernel)) rfl
theorem kJ5_245 : CallS RJ5 245 yJ6_stringSize_0f7a4 iJ6_stringSize_0f7a4 1 := ⟨mw_954, mw_955, mw_98, mw_956, by decide +kernel, by decide⟩
theorem mw_957 : Cond.methodLink RJ5 248 yJ6_getChars_ba4f3 ∈ lw_g := lw_in (List.mem_of_getElem? (i := 957) (by decide +kernel)) rfl
theorem mw_959 : Cond.code yJ6_getChars_ba4f3 cJ6_getChars_ba4f3 7 (some .int) ∈ lw_g := lw_in (List.mem_of_getElem? (i := 959) (by decide +kernel)) rfl
theorem mw_958 : Cond.static yJ6_getChars_ba4f3 ∈ lw_g := lw_in (List.mem_of_getElem? (i := 958) (by decide +kernel)) rfl
theorem kJ5_248 : CallS RJ5 248 yJ6_getChars_ba4f3 iJ6_getChars_ba4f3 3 := ⟨mw_957, mw_958, mw_98, mw_959, by decide +kernel, by decide⟩
theorem mw_964 : Cond.methodLink RJ5 251 yJ2_getChars_46870 ∈ lw_g := lw_in (List.mem_of_getElem? (i := 964) (by decide +kernel)) rfl
theorem mw_966 : Cond.code yJ2_getChars_46870 cJ2_getChars_46870 5 (some .int) ∈ lw_g := lw_in (List.mem_of_getElem? (i := 966) (by decide +kernel)) rfl
theorem mw_965 : Cond.static yJ2_getChars_46870 ∈ lw_g := lw_in (List.mem_of_getElem? (i := 965) (by decide +kernel)) rfl
theorem kJ5_251 : CallS RJ5 251 yJ2_getChars_46870 iJ2_getChars_46870 4 := ⟨mw_964, mw_965, mw_90, mw_966, by decide +kernel, by decide⟩
theorem mw_920 : Cond.methodLink RJ5 40 yJ0_coder_7d493 ∈ lw_g := lw_in (List.mem_of_getElem? (i := 920) (by decide +kernel)) rfl
theorem mw_910 : Cond.code yJ0_coder_7d493 cJ0_coder_7d493 1 (some .byte) ∈ lw_g := lw_in (List.mem_of_getElem? (i := 910) (by decide +kernel)) rfl
theorem mw_908 : Cond.instanceMethod yJ0_coder_7d493 ∈ lw_g := lw_in (List.mem_of_getElem? (i := 908) (by decide +kernel)) rfl
theorem mw_909 : Cond.selects RJ0 yJ0_coder_7d493 yJ0_coder_7d493 ∈ lw_g := lw_in (List.mem_of_getElem? (i := 909) (by decide +kernel)) rfl
theorem kJ5_40 : CallV RJ5 40 yJ0_coder_7d493 iJ0_coder_7d493 0 := ⟨mw_920, mw_908, mw_909, mw_89, mw_910, by decide +kernel, by decide⟩
theorem mw_921 : Cond.methodLink RJ5 195 yJ5_inflate_da8c8 ∈ lw_g := lw_in (List.mem_of_getElem? (i := 921) (by decide +kernel)) rfl
theorem mw_924 : Cond.code yJ5_inflate_da8c8 cJ5_inflate_da8c8 2 none ∈ lw_g := lw_in (List.mem_of_getElem? (i := 924) (by decide +kernel)) rfl
theorem mw_916 : Cond.methodLink RJ5 397 yJ5_inflateIfNeededFor_a7421 ∈ lw_g := lw_in (List.mem_of_getElem? (i := 916) (by decide +kernel)) rfl
theorem mw_919 : Cond.code yJ5_inflateIfNeededFor_a7421 cJ5_inflateIfNeededFor_a7421 2 none ∈ lw_g := lw_in (List.mem_of_getElem? (i := 919) (by decide +kernel)) rfl
theorem mw_940 : Cond.methodLink RJ5 399 yJ0_getBytes_840e7 ∈ lw_g := lw_in (List.mem_of_getElem? (i := 940) (by decide +kernel)) rfl
theorem mw_943 : Cond.code yJ0_getBytes_840e7 cJ0_getBytes_840e7 4 none ∈ lw_g := lw_in (List.mem_of_getElem? (i := 943) (by decide +kernel)) rfl
theorem mw_941 : Cond.instanceMethod yJ0_getBytes_840e7 ∈ lw_g := lw_in (List.mem_of_getElem? (i := 941) (by decide +kernel)) rfl
theorem mw_942 : Cond.selects RJ0 yJ0_getBytes_840e7 yJ0_getBytes_840e7 ∈ lw_g := lw_in (List.mem_of_getElem? (i := 942) (by decide +kernel)) rfl
theorem kJ5_399 : CallV RJ5 399 yJ0_getBytes_840e7 iJ0_getBytes_840e7 3 := ⟨mw_940, mw_941, mw_942, mw_89, mw_943, by decide +kernel, by decide⟩
theorem mw_960 : Cond.fieldLink RJ6 83 "java/lang/Integer" "DigitOnes" "[B" ∈ lw_g := lw_in (List.mem_of_getElem? (i := 960) (by decide +kernel)) rfl
theorem sJ6_83 : Cond.fieldLink RJ6 83 "java/lang/Integer" "DigitOnes" "[B" ∈ lw_g := mw_960
theorem mw_962 : Cond.fieldLink RJ6 87 "java/lang/Integer" "DigitTens" "[B" ∈ lw_g := lw_in (List.mem_of_getElem? (i := 962) (by decide +kernel)) rfl
theorem sJ6_87 : Cond.fieldLink RJ6 87 "java/lang/Integer" "DigitTens" "[B" ∈ lw_g := mw_962
theorem mw_1618 : Cond.fieldLink RJ0 9 "java/lang/String" "value" "[B" ∈ lw_g := lw_in (List.mem_of_getElem? (i := 1618) (by decide +kernel)) rfl
theorem gJ0_9 : Cond.fieldLink RJ0 9 "java/lang/String" "value" "[B" ∈ lw_g := mw_1618
theorem mw_907 : Cond.methodLink RJ0 335 yJ0_coder_7d493 ∈ lw_g := lw_in (List.mem_of_getElem? (i := 907) (by decide +kernel)) rfl
theorem kJ0_335 : CallV RJ0 335 yJ0_coder_7d493 iJ0_coder_7d493 0 := ⟨mw_907, mw_908, mw_909, mw_89, mw_910, by decide +kernel, by decide⟩
theorem mw_1112 : Cond.methodLink RJ0 492 yJ0_isLatin1_aae02 ∈ lw_g := lw_in (List.mem_of_getElem? (i := 1112) (by decide +kernel)) rfl
theorem mw_1115 : Cond.code yJ0_isLatin1_aae02 cJ0_isLatin1_aae02 1 (some .boolean) ∈ lw_g := lw_in (List.mem_of_getElem? (i := 1115) (by decide +kernel)) rfl
theorem mw_1113 : Cond.instanceMethod yJ0_isLatin1_aae02 ∈ lw_g := lw_in (List.mem_of_getElem? (i := 1113) (by decide +kernel)) rfl
theorem mw_1114 : Cond.selects RJ0 yJ0_isLatin1_aae02 yJ0_isLatin1_aae02 ∈ lw_g := lw_in (List.mem_of_getElem? (i := 1114) (by decide +kernel)) rfl
theorem kJ0_492 : CallV RJ0 492 yJ0_isLatin1_aae02 iJ0_isLatin1_aae02 0 := ⟨mw_1112, mw_1113, mw_1114, mw_89, mw_1115, by decide +kernel, by decide⟩
theorem mw_1116 : Cond.methodLink RJ0 495 yJ1_charAt_3b067 ∈ lw_g := lw_in (List.mem_of_getElem? (i := 1116) (by decide +kernel)) rfl
theorem mw_1118 : Cond.code yJ1_charAt_3b067 cJ1_charAt_3b067 2 (some .char) ∈ lw_g := lw_in (List.mem_of_getElem? (i := 1118) (by decide +kernel)) rfl
theorem mw_1117 : Cond.static yJ1_charAt_3b067 ∈ lw_g := lw_in (List.mem_of_getElem? (i := 1117) (by decide +kernel)) rfl
theorem kJ0_495 : CallS RJ0 495 yJ1_charAt_3b067 iJ1_charAt_3b067 2 := ⟨mw_1116, mw_1117, mw_95, mw_1118, by decide +kernel, by decide⟩
theorem mw_1120 : Cond.methodLink RJ0 498 yJ2_charAt_3b067 ∈ lw_g := lw_in (List.mem_of_getElem? (i := 1120) (by decide +kernel)) rfl
theorem mw_1122 : Cond.code yJ2_charAt_3b067 cJ2_charAt_3b067 2 (some .char) ∈ lw_g := lw_in (List.mem_of_getElem? (i := 1122) (by decide +kernel)) rfl
theorem mw_1121 : Cond.static yJ2_charAt_3b067 ∈ lw_g := lw_in (List.mem_of_getElem? (i := 1121) (by decide +kernel)) rfl
theorem kJ0_498 : CallS RJ0 498 yJ2_charAt_3b067 iJ2_charAt_3b067 2 := ⟨mw_1120, mw_1121, mw_90, mw_1122, by decide +kernel, by decide⟩
theorem kJ0_212 : Cond.methodLink RJ0 212 arraycopyName ∈ lw_g := lw_in (List.mem_of_getElem? (i := 944) (by decide +kernel)) rfl
theorem mw_945 : Cond.methodLink RJ0 106 yJ1_inflate_0e8fd ∈ lw_g := lw_in (List.mem_of_getElem? (i := 945) (by decide +kernel)) rfl
theorem kJ0_106 : CallS RJ0 106 yJ1_inflate_0e8fd iJ1_inflate_0e8fd 5 := ⟨mw_945, mw_926, mw_95, mw_927, by decide +kernel, by decide⟩
theorem mw_911 : Cond.fieldLink RJ0 38 "java/lang/String" "COMPACT_STRINGS" "Z" ∈ lw_g := lw_in (List.mem_of_getElem? (i := 911) (by decide +kernel)) rfl
theorem sJ0_38 : Cond.fieldLink RJ0 38 "java/lang/String" "COMPACT_STRINGS" "Z" ∈ lw_g := mw_911
theorem mw_1619 : Cond.fieldLink RJ0 15 "java/lang/String" "coder" "B" ∈ lw_g := lw_in (List.mem_of_getElem? (i := 1619) (by decide +kernel)) rfl
theorem gJ0_15 : Cond.fieldLink RJ0 15 "java/lang/String" "coder" "B" ∈ lw_g := mw_1619
theorem mw_889 : Cond.fieldLink RJ0 1053 "jdk/internal/util/Preconditions" "SIOOBE_FORMATTER" "Ljava/util/function/BiFunction;" ∈ lw_g := lw_in (List.mem_of_getElem? (i := 889) (by decide +kernel)) rfl
theorem sJ0_1053 : Cond.fieldLink RJ0 1053 "jdk/internal/util/Preconditions" "SIOOBE_FORMATTER" "Ljava/util/function/BiFunction;" ∈ lw_g := mw_889
theorem mw_1004 : Cond.methodLink RJ0 1059 yJ3_checkIndex_8e157 ∈ lw_g := lw_in (List.mem_of_getElem? (i := 1004) (by decide +kernel)) rfl
theorem mw_96 : Cond.initialized RJ3 ∈ lw_g := lw_in (List.mem_of_getElem? (i := 96) (by decide +kernel)) rfl
theorem mw_1006 : Cond.code yJ3_checkIndex_8e157 cJ3_checkIndex_8e157 3 (some .int) ∈ lw_g := lw_in (List.mem_of_getElem? (i := 1006) (by decide +kernel)) rfl
theorem mw_1005 : Cond.static yJ3_checkIndex_8e157 ∈ lw_g := lw_in (List.mem_of_getElem? (i := 1005) (by decide +kernel)) rfl
theorem kJ0_1059 : CallS RJ0 1059 yJ3_checkIndex_8e157 iJ3_checkIndex_8e157 3 := ⟨mw_1004, mw_1005, mw_96, mw_1006, by decide +kernel, by decide⟩
theorem mw_937 : Cond.methodLink RJ0 1065 yJ3_checkFromIndexSize_8c36e ∈ lw_g := lw_in (List.mem_of_getElem? (i := 937) (by decide +kernel)) rfl
theorem mw_939 : Cond.code yJ3_checkFromIndexSize_8c36e cJ3_checkFromIndexSize_8c36e 4 (some .int) ∈ lw_g := lw_in (List.mem_of_getElem? (i := 939) (by decide +kernel)) rfl
theorem mw_938 : Cond.static yJ3_checkFromIndexSize_8c36e ∈ lw_g := lw_in (List.mem_of_getElem? (i := 938) (by decide +kernel)) rfl
theorem kJ0_1065 : CallS RJ0 1065 yJ3_checkFromIndexSize_8c36e iJ3_checkFromIndexSize_8c36e 4 := ⟨mw_937, mw_938, mw_96, mw_939, by decide +kernel, by decide⟩
theorem mw_891 : Cond.methodLink RJ0 1062 yJ3_checkFromToIndex_8c36e ∈ lw_g := lw_in (List.mem_of_getElem? (i := 891) (by decide +kernel)) rfl
theorem mw_893 : Cond.code yJ3_checkFromToIndex_8c36e cJ3_checkFromToIndex_8c36e 4 (some .int) ∈ lw_g := lw_in (List.mem_of_getElem? (i := 893) (by decide +kernel)) rfl
theorem mw_892 : Cond.static yJ3_checkFromToIndex_8c36e ∈ lw_g := lw_in (List.mem_of_getElem? (i := 892) (by decide +kernel)) rfl
theorem kJ0_1062 : CallS RJ0 1062 yJ3_checkFromToIndex_8c36e iJ3_checkFromToIndex_8c36e 4 := ⟨mw_891, mw_892, mw_96, mw_893, by decide +kernel, by decide⟩
theorem mw_384 : Cond.methodLink RJ4 1 yJ5_init_d00df ∈ lw_g := lw_in (List.mem_of_getElem? (i := 384) (by decide +kernel)) rfl
theorem mw_386 : Cond.code yJ5_init_d00df cJ5_init_d00df 2 none ∈ lw_g := lw_in (List.mem_of_getElem? (i := 386) (by decide +kernel)) rfl
theorem mw_385 : Cond.instanceMethod yJ5_init_d00df ∈ lw_g := lw_in (List.mem_of_getElem? (i := 385) (by decide +kernel)) rfl
theorem kJ4_1 : CallI RJ4 1 yJ5_init_d00df iJ5_init_d00df 1 := ⟨mw_384, mw_385, rfl, mw_87, mw_386, by decide +kernel, by decide, rfl⟩
theorem mw_870 : Cond.methodLink RJ4 29 yJ5_append_cf1ce ∈ lw_g := lw_in (List.mem_of_getElem? (i := 870) (by decide +kernel)) rfl
theorem mw_872 : Cond.code yJ5_append_cf1ce cJ5_append_cf1ce 3 (some (.object "java/lang/AbstractStringBuilder")) ∈ lw_g := lw_in (List.mem_of_getElem? (i := 872) (by decide +kernel)) rfl
theorem mw_951 : Cond.methodLink RJ4 53 yJ5_append_c97b9 ∈ lw_g := lw_in (List.mem_of_getElem? (i := 951) (by decide +kernel)) rfl
theorem mw_953 : Cond.code yJ5_append_c97b9 cJ5_append_c97b9 4 (some (.object "java/lang/AbstractStringBuilder")) ∈ lw_g := lw_in (List.mem_of_getElem? (i := 953) (by decide +kernel)) rfl
theorem mw_997 : Cond.methodLink RJ4 329 yJ5_charAt_5068e ∈ lw_g := lw_in (List.mem_of_getElem? (i := 997) (by decide +kernel)) rfl
theorem mw_999 : Cond.code yJ5_charAt_5068e cJ5_charAt_5068e 5 (some .char) ∈ lw_g := lw_in (List.mem_of_getElem? (i := 999) (by decide +kernel)) rfl
theorem mw_799 : Cond.methodLink RJ4 333 yJ5_setLength_d00df ∈ lw_g := lw_in (List.mem_of_getElem? (i := 799) (by decide +kernel)) rfl
theorem mw_801 : Cond.code yJ5_setLength_d00df cJ5_setLength_d00df 2 none ∈ lw_g := lw_in (List.mem_of_getElem? (i := 801) (by decide +kernel)) rfl
theorem mw_990 : Cond.methodLink RJ4 343 yJ5_length_8abf5 ∈ lw_g := lw_in (List.mem_of_getElem? (i := 990) (by decide +kernel)) rfl
theorem mw_992 : Cond.code yJ5_length_8abf5 cJ5_length_8abf5 1 (some .int) ∈ lw_g := lw_in (List.mem_of_getElem? (i := 992) (by decide +kernel)) rfl
theorem mw_1119 : Cond.methodLink RJ1 9 yJ0_checkIndex_df160 ∈ lw_g := lw_in (List.mem_of_getElem? (i := 1119) (by decide +kernel)) rfl
theorem kJ1_9 : CallS RJ1 9 yJ0_checkIndex_df160 iJ0_checkIndex_df160 2 := ⟨mw_1119, mw_1002, mw_89, mw_1003, by decide +kernel, by decide⟩
theorem mw_843 : Cond.methodLink RJ1 236 yJ7_fill_eb02e ∈ lw_g := lw_in (List.mem_of_getElem? (i := 843) (by decide +kernel)) rfl
theorem mw_845 : Cond.code yJ7_fill_eb02e cJ7_fill_eb02e 5 none ∈ lw_g := lw_in (List.mem_of_getElem? (i := 845) (by decide +kernel)) rfl
theorem mw_844 : Cond.static yJ7_fill_eb02e ∈ lw_g := lw_in (List.mem_of_getElem? (i := 844) (by decide +kernel)) rfl
theorem kJ1_236 : CallS RJ1 236 yJ7_fill_eb02e iJ7_fill_eb02e 4 := ⟨mw_843, mw_844, mw_84, mw_845, by decide +kernel, by decide⟩
theorem mw_928 : Cond.methodLink RJ1 240 yJ2_inflate_0e8fd ∈ lw_g := lw_in (List.mem_of_getElem? (i := 928) (by decide +kernel)) rfl
theorem mw_930 : Cond.code yJ2_inflate_0e8fd cJ2_inflate_0e8fd 6 none ∈ lw_g := lw_in (List.mem_of_getElem? (i := 930) (by decide +kernel)) rfl
theorem mw_929 : Cond.static yJ2_inflate_0e8fd ∈ lw_g := lw_in (List.mem_of_getElem? (i := 929) (by decide +kernel)) rfl
theorem kJ1_240 : CallS RJ1 240 yJ2_inflate_0e8fd iJ2_inflate_0e8fd 5 := ⟨mw_928, mw_929, mw_90, mw_930, by decide +kernel, by decide⟩
theorem mw_393 : Cond.methodLink RJ2 11 yJ2_newBytesLength_0f7a4 ∈ lw_g := lw_in (List.mem_of_getElem? (i := 393) (by decide +kernel)) rfl
theorem mw_395 : Cond.code yJ2_newBytesLength_0f7a4 cJ2_newBytesLength_0f7a4 1 (some .int) ∈ lw_g := lw_in (List.mem_of_getElem? (i := 395) (by decide +kernel)) rfl
theorem mw_394 : Cond.static yJ2_newBytesLength_0f7a4 ∈ lw_g := lw_in (List.mem_of_getElem? (i := 394) (by decide +kernel)) rfl
theorem kJ2_11 : CallS RJ2 11 yJ2_newBytesLength_0f7a4 iJ2_newBytesLength_0f7a4 1 := ⟨mw_393, mw_394, mw_90, mw_395, by decide +kernel, by decide⟩
theorem qJ2_20 : Cond.constant RJ2 20 (1073741823) ∈ lw_g := lw_in (List.mem_of_getElem? (i := 396) (by decide +kernel)) rfl
theorem mw_897 : Cond.fieldLink RJ2 44 "java/lang/StringUTF16" "$assertionsDisabled" "Z" ∈ lw_g := lw_in (List.mem_of_getElem? (i := 897) (by decide +kernel)) rfl
theorem sJ2_44 : Cond.fieldLink RJ2 44 "java/lang/StringUTF16" "$assertionsDisabled" "Z" ∈ lw_g := mw_897
theorem mw_883 : Cond.methodLink RJ2 48 yJ2_length_9d52b ∈ lw_g := lw_in (List.mem_of_getElem? (i := 883) (by decide +kernel)) rfl
theorem mw_885 : Cond.code yJ2_length_9d52b cJ2_length_9d52b 1 (some .int) ∈ lw_g := lw_in (List.mem_of_getElem? (i := 885) (by decide +kernel)) rfl
theorem mw_884 : Cond.static yJ2_length_9d52b ∈ lw_g := lw_in (List.mem_of_getElem? (i := 884) (by decide +kernel)) rfl
theorem kJ2_48 : CallS RJ2 48 yJ2_length_9d52b iJ2_length_9d52b 1 := ⟨mw_883, mw_884, mw_90, mw_885, by decide +kernel, by decide⟩
theorem mw_899 : Cond.fieldLink RJ2 59 "java/lang/StringUTF16" "HI_BYTE_SHIFT" "I" ∈ lw_g := lw_in (List.mem_of_getElem? (i := 899) (by decide +kernel)) rfl
theorem sJ2_59 : Cond.fieldLink RJ2 59 "java/lang/StringUTF16" "HI_BYTE_SHIFT" "I" ∈ lw_g := mw_899
theorem mw_901 : Cond.fieldLink RJ2 63 "java/lang/StringUTF16" "LO_BYTE_SHIFT" "I" ∈ lw_g := lw_in (List.mem_of_getElem? (i := 901) (by decide +kernel)) rfl
theorem sJ2_63 : Cond.fieldLink RJ2 63 "java/lang/StringUTF16" "LO_BYTE_SHIFT" "I" ∈ lw_g := mw_901
theorem mw_852 : Cond.methodLink RJ2 380 yJ7_fill_eb02e ∈ lw_g := lw_in (List.mem_of_getElem? (i := 852) (by decide +kernel)) rfl
theorem kJ2_380 : CallS RJ2 380 yJ7_fill_eb02e iJ7_fill_eb02e 4 := ⟨mw_852, mw_844, mw_84, mw_845, by decide +kernel, by decide⟩
theorem mw_880 : Cond.methodLink RJ2 96 yJ2_checkBoundsBeginEnd_d044e ∈ lw_g := lw_in (List.mem_of_getElem? (i := 880) (by decide +kernel)) rfl
theorem mw_882 : Cond.code yJ2_checkBoundsBeginEnd_d044e cJ2_checkBoundsBeginEnd_d044e 3 none ∈ lw_g := lw_in (List.mem_of_getElem? (i := 882) (by decide +kernel)) rfl
theorem mw_881 : Cond.static yJ2_checkBoundsBeginEnd_d044e ∈ lw_g := lw_in (List.mem_of_getElem? (i := 881) (by decide +kernel)) rfl
theorem kJ2_96 : CallS RJ2 96 yJ2_checkBoundsBeginEnd_d044e iJ2_checkBoundsBeginEnd_d044e 3 := ⟨mw_880, mw_881, mw_90, mw_882, by decide +kernel, by decide⟩
theorem mw_967 : Cond.methodLink RJ2 393 yJ2_getChars_ba4f3 ∈ lw_g := lw_in (List.mem_of_getElem? (i := 967) (by decide +kernel)) rfl
theorem mw_969 : Cond.code yJ2_getChars_ba4f3 cJ2_getChars_ba4f3 7 (some .int) ∈ lw_g := lw_in (List.mem_of_getElem? (i := 969) (by decide +kernel)) rfl
theorem mw_968 : Cond.static yJ2_getChars_ba4f3 ∈ lw_g := lw_in (List.mem_of_getElem? (i := 968) (by decide +kernel)) rfl
theorem kJ2_393 : CallS RJ2 393 yJ2_getChars_ba4f3 iJ2_getChars_ba4f3 3 := ⟨mw_967, mw_968, mw_90, mw_969, by decide +kernel, by decide⟩
theorem mw_894 : Cond.methodLink RJ2 111 yJ2_putChar_b72d1 ∈ lw_g := lw_in (List.mem_of_getElem? (i := 894) (by decide +kernel)) rfl
theorem mw_896 : Cond.code yJ2_putChar_b72d1 cJ2_putChar_b72d1 3 none ∈ lw_g := lw_in (List.mem_of_getElem? (i := 896) (by decide +kernel)) rfl
theorem mw_895 : Cond.static yJ2_putChar_b72d1 ∈ lw_g := lw_in (List.mem_of_getElem? (i := 895) (by decide +kernel)) rfl
theorem kJ2_111 : CallS RJ2 111 yJ2_putChar_b72d1 iJ2_putChar_b72d1 3 := ⟨mw_894, mw_895, mw_90, mw_896, by decide +kernel, by decide⟩
theorem mw_1123 : Cond.methodLink RJ2 67 yJ2_checkIndex_2214a ∈ lw_g := lw_in (List.mem_of_getElem? (i := 1123) (by decide +kernel)) rfl
theorem mw_1125 : Cond.code yJ2_checkIndex_2214a cJ2_checkIndex_2214a 2 none ∈ lw_g := lw_in (List.mem_of_getElem? (i := 1125) (by decide +kernel)) rfl
theorem mw_1124 : Cond.static yJ2_checkIndex_2214a ∈ lw_g := lw_in (List.mem_of_getElem? (i := 1124) (by decide +kernel)) rfl
theorem kJ2_67 : CallS RJ2 67 yJ2_checkIndex_2214a iJ2_checkIndex_2214a 2 := ⟨mw_1123, mw_1124, mw_90, mw_1125, by decide +kernel, by decide⟩
theorem mw_1127 : Cond.methodLink RJ2 71 yJ2_getChar_3b067 ∈ lw_g := lw_in (List.mem_of_getElem? (i := 1127) (by decide +kernel)) rfl
theorem kJ2_71 : CallS RJ2 71 yJ2_getChar_3b067 iJ2_getChar_3b067 2 := ⟨mw_1127, mw_1008, mw_90, mw_1009, by decide +kernel, by decide⟩
theorem mw_931 : Cond.methodLink RJ2 173 yJ2_checkBoundsOffCount_d044e ∈ lw_g := lw_in (List.mem_of_getElem? (i := 931) (by decide +kernel)) rfl
theorem mw_933 : Cond.code yJ2_checkBoundsOffCount_d044e cJ2_checkBoundsOffCount_d044e 3 none ∈ lw_g := lw_in (List.mem_of_getElem? (i := 933) (by decide +kernel)) rfl
theorem mw_932 : Cond.static yJ2_checkBoundsOffCount_d044e ∈ lw_g := lw_in (List.mem_of_getElem? (i := 932) (by decide +kernel)) rfl
theorem kJ2_173 : CallS RJ2 173 yJ2_checkBoundsOffCount_d044e iJ2_checkBoundsOffCount_d044e 3 := ⟨mw_931, mw_932, mw_90, mw_933, by decide +kernel, by decide⟩
theorem mw_970 : Cond.fieldLink RJ2 403 "java/lang/Integer" "DigitOnes" "[B" ∈ lw_g := lw_in (List.mem_of_getElem? (i := 970) (by decide +kernel)) rfl
theorem sJ2_403 : Cond.fieldLink RJ2 403 "java/lang/Integer" "DigitOnes" "[B" ∈ lw_g := mw_970
theorem mw_971 : Cond.fieldLink RJ2 407 "java/lang/Integer" "DigitTens" "[B" ∈ lw_g := lw_in (List.mem_of_getElem? (i := 971) (by decide +kernel)) rfl
theorem sJ2_407 : Cond.fieldLink RJ2 407 "java/lang/Integer" "DigitTens" "[B" ∈ lw_g := mw_971
theorem mw_1126 : Cond.methodLink RJ2 414 yJ0_checkIndex_df160 ∈ lw_g := lw_in (List.mem_of_getElem? (i := 1126) (by decide +kernel)) rfl
theorem kJ2_414 : CallS RJ2 414 yJ0_checkIndex_df160 iJ0_checkIndex_df160 2 := ⟨mw_1126, mw_1002, mw_89, mw_1003, by decide +kernel, by decide⟩
theorem mw_886 : Cond.methodLink RJ2 241 yJ0_checkBoundsBeginEnd_23922 ∈ lw_g := lw_in (List.mem_of_getElem? (i := 886) (by decide +kernel)) rfl
theorem mw_888 : Cond.code yJ0_checkBoundsBeginEnd_23922 cJ0_checkBoundsBeginEnd_23922 3 none ∈ lw_g := lw_in (List.mem_of_getElem? (i := 888) (by decide +kernel)) rfl
theorem mw_887 : Cond.static yJ0_checkBoundsBeginEnd_23922 ∈ lw_g := lw_in (List.mem_of_getElem? (i := 887) (by decide +kernel)) rfl
theorem kJ2_241 : CallS RJ2 241 yJ0_checkBoundsBeginEnd_23922 iJ0_checkBoundsBeginEnd_23922 3 := ⟨mw_886, mw_887, mw_89, mw_888, by decide +kernel, by decide⟩
theorem mw_934 : Cond.methodLink RJ2 419 yJ0_checkBoundsOffCount_cabcc ∈ lw_g := lw_in (List.mem_of_getElem? (i := 934) (by decide +kernel)) rfl
theorem mw_936 : Cond.code yJ0_checkBoundsOffCount_cabcc cJ0_checkBoundsOffCount_cabcc 3 (some .int) ∈ lw_g := lw_in (List.mem_of_getElem? (i := 936) (by decide +kernel)) rfl
theorem mw_935 : Cond.static yJ0_checkBoundsOffCount_cabcc ∈ lw_g := lw_in (List.mem_of_getElem? (i := 935) (by decide +kernel)) rfl
theorem kJ2_419 : CallS RJ2 419 yJ0_checkBoundsOffCount_cabcc iJ0_checkBoundsOffCount_cabcc 3 := ⟨mw_934, mw_935, mw_89, mw_936, by decide +kernel, by decide⟩
theorem mw_846 : Cond.methodLink RJ7 13 yJ7_rangeCheck_23922 ∈ lw_g := lw_in (List.mem_of_getElem? (i := 846) (by decide +kernel)) rfl
theorem mw_848 : Cond.code yJ7_rangeCheck_23922 cJ7_rangeCheck_23922 3 none ∈ lw_g := lw_in (List.mem_of_getElem? (i := 848) (by decide +kernel)) rfl
theorem mw_847 : Cond.static yJ7_rangeCheck_23922 ∈ lw_g := lw_in (List.mem_of_getElem? (i := 847) (by decide +kernel)) rfl
theorem kJ7_13 : CallS RJ7 13 yJ7_rangeCheck_23922 iJ7_rangeCheck_23922 3 := ⟨mw_846, mw_847, mw_84, mw_848, by decide +kernel, by decide⟩
theorem mw_831 : Cond.methodLink RJ7 304 yJ9_min_7cf53 ∈ lw_g := lw_in (List.mem_of_getElem? (i := 831) (by decide +kernel)) rfl
theorem kJ7_304 : CallS RJ7 304 yJ9_min_7cf53 iJ9_min_7cf53 2 := ⟨mw_831, mw_832, mw_94, mw_833, by decide +kernel, by decide⟩
theorem kJ7_150 : Cond.methodLink RJ7 150 arraycopyName ∈ lw_g := lw_in (List.mem_of_getElem? (i := 834) (by decide +kernel)) rfl
theorem mw_813 : Cond.methodLink RJ8 194 yJ9_max_7cf53 ∈ lw_g := lw_in (List.mem_of_getElem? (i := 813) (by decide +kernel)) rfl
theorem kJ8_194 : CallS RJ8 194 yJ9_max_7cf53 iJ9_max_7cf53 2 := ⟨mw_813, mw_814, mw_94, mw_815, by decide +kernel, by decide⟩
theorem qJ8_200 : Cond.constant RJ8 200 (2147483639) ∈ lw_g := lw_in (List.mem_of_getElem? (i := 816) (by decide +kernel)) rfl
theorem mw_817 : Cond.methodLink RJ8 201 yJ8_hugeLength_7cf53 ∈ lw_g := lw_in (List.mem_of_getElem? (i := 817) (by decide +kernel)) rfl
theorem mw_819 : Cond.code yJ8_hugeLength_7cf53 cJ8_hugeLength_7cf53 3 (some .int) ∈ lw_g := lw_in (List.mem_of_getElem? (i := 819) (by decide +kernel)) rfl
theorem mw_818 : Cond.static yJ8_hugeLength_7cf53 ∈ lw_g := lw_in (List.mem_of_getElem? (i := 818) (by decide +kernel)) rfl
theorem kJ8_201 : CallS RJ8 201 yJ8_hugeLength_7cf53 iJ8_hugeLength_7cf53 2 := ⟨mw_817, mw_818, mw_93, mw_819, by decide +kernel, by decide⟩
