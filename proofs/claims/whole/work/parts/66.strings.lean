/-! the JDK's String constants: length, charAt, indexOf; the class's words -/
abbrev m_J0_length : Md := (yJ0_length_8abf5, cJ0_length_8abf5, 1, some .int)
abbrev m_J0_coder : Md := (yJ0_coder_7d493, cJ0_coder_7d493, 1, some .byte)
abbrev m_J0_isLatin1 : Md := (yJ0_isLatin1_aae02, cJ0_isLatin1_aae02, 1, some .boolean)
abbrev m_J0_charAt : Md := (yJ0_charAt_5068e, cJ0_charAt_5068e, 2, some .char)
abbrev m_J1_charAt : Md := (yJ1_charAt_3b067, cJ1_charAt_3b067, 2, some .char)
abbrev m_J0_checkIndex : Md := (yJ0_checkIndex_df160, cJ0_checkIndex_df160, 2, none)
abbrev m_J3_checkIndex : Md := (yJ3_checkIndex_8e157, cJ3_checkIndex_8e157, 3, some .int)
abbrev m_J0_indexOf1 : Md := (yJ0_indexOf_0f7a4, cJ0_indexOf_0f7a4, 2, some .int)
abbrev m_J0_indexOf2 : Md := (yJ0_indexOf_7cf53, cJ0_indexOf_7cf53, 3, some .int)
abbrev m_J1_indexOf : Md := (yJ1_indexOf_4cfef, cJ1_indexOf_4cfef, 4, some .int)
abbrev m_J1_canEncode : Md := (yJ1_canEncode_9a6ad, cJ1_canEncode_9a6ad, 1, some .boolean)
abbrev m_J1_indexOfChar : Md := (yJ1_indexOfChar_4cfef, cJ1_indexOfChar_4cfef, 6, some .int)
theorem dJ0_length_0 : decode m_J0_length.2.1 0 = .ok (.aload_n 0, 1) := by decide +kernel
theorem dJ0_length_1 : decode m_J0_length.2.1 1 = .ok (.getfield 9, 3) := by decide +kernel
theorem dJ0_length_4 : decode m_J0_length.2.1 4 = .ok (.arraylength, 1) := by decide +kernel
theorem dJ0_length_5 : decode m_J0_length.2.1 5 = .ok (.aload_n 0, 1) := by decide +kernel
theorem dJ0_length_6 : decode m_J0_length.2.1 6 = .ok (.invokevirtual 335, 3) := by decide +kernel
theorem dJ0_length_9 : decode m_J0_length.2.1 9 = .ok (.ishr, 1) := by decide +kernel
theorem dJ0_length_10 : decode m_J0_length.2.1 10 = .ok (.ireturn, 1) := by decide +kernel
theorem dJ0_coder_0 : decode m_J0_coder.2.1 0 = .ok (.getstatic 38, 3) := by decide +kernel
theorem dJ0_coder_3 : decode m_J0_coder.2.1 3 = .ok (.ifCond .eq 10, 3) := by decide +kernel
theorem dJ0_coder_6 : decode m_J0_coder.2.1 6 = .ok (.aload_n 0, 1) := by decide +kernel
theorem dJ0_coder_7 : decode m_J0_coder.2.1 7 = .ok (.getfield 15, 3) := by decide +kernel
theorem dJ0_coder_10 : decode m_J0_coder.2.1 10 = .ok (.goto 4, 3) := by decide +kernel
theorem dJ0_coder_13 : decode m_J0_coder.2.1 13 = .ok (.iconst 1, 1) := by decide +kernel
theorem dJ0_coder_14 : decode m_J0_coder.2.1 14 = .ok (.ireturn, 1) := by decide +kernel
theorem dJ0_isLatin1_0 : decode m_J0_isLatin1.2.1 0 = .ok (.getstatic 38, 3) := by decide +kernel
theorem dJ0_isLatin1_3 : decode m_J0_isLatin1.2.1 3 = .ok (.ifCond .eq 14, 3) := by decide +kernel
theorem dJ0_isLatin1_6 : decode m_J0_isLatin1.2.1 6 = .ok (.aload_n 0, 1) := by decide +kernel
theorem dJ0_isLatin1_7 : decode m_J0_isLatin1.2.1 7 = .ok (.getfield 15, 3) := by decide +kernel
theorem dJ0_isLatin1_10 : decode m_J0_isLatin1.2.1 10 = .ok (.ifCond .ne 7, 3) := by decide +kernel
theorem dJ0_isLatin1_13 : decode m_J0_isLatin1.2.1 13 = .ok (.iconst 1, 1) := by decide +kernel
theorem dJ0_isLatin1_14 : decode m_J0_isLatin1.2.1 14 = .ok (.goto 4, 3) := by decide +kernel
theorem dJ0_isLatin1_17 : decode m_J0_isLatin1.2.1 17 = .ok (.iconst 0, 1) := by decide +kernel
theorem dJ0_isLatin1_18 : decode m_J0_isLatin1.2.1 18 = .ok (.ireturn, 1) := by decide +kernel
theorem dJ0_charAt_0 : decode m_J0_charAt.2.1 0 = .ok (.aload_n 0, 1) := by decide +kernel
theorem dJ0_charAt_1 : decode m_J0_charAt.2.1 1 = .ok (.invokevirtual 492, 3) := by decide +kernel
theorem dJ0_charAt_4 : decode m_J0_charAt.2.1 4 = .ok (.ifCond .eq 12, 3) := by decide +kernel
theorem dJ0_charAt_7 : decode m_J0_charAt.2.1 7 = .ok (.aload_n 0, 1) := by decide +kernel
theorem dJ0_charAt_8 : decode m_J0_charAt.2.1 8 = .ok (.getfield 9, 3) := by decide +kernel
theorem dJ0_charAt_11 : decode m_J0_charAt.2.1 11 = .ok (.iload_n 1, 1) := by decide +kernel
theorem dJ0_charAt_12 : decode m_J0_charAt.2.1 12 = .ok (.invokestatic 495, 3) := by decide +kernel
theorem dJ0_charAt_15 : decode m_J0_charAt.2.1 15 = .ok (.ireturn, 1) := by decide +kernel
theorem dJ0_charAt_16 : decode m_J0_charAt.2.1 16 = .ok (.aload_n 0, 1) := by decide +kernel
theorem dJ0_charAt_17 : decode m_J0_charAt.2.1 17 = .ok (.getfield 9, 3) := by decide +kernel
theorem dJ0_charAt_20 : decode m_J0_charAt.2.1 20 = .ok (.iload_n 1, 1) := by decide +kernel
theorem dJ0_charAt_21 : decode m_J0_charAt.2.1 21 = .ok (.invokestatic 498, 3) := by decide +kernel
theorem dJ0_charAt_24 : decode m_J0_charAt.2.1 24 = .ok (.ireturn, 1) := by decide +kernel
theorem dJ1_charAt_0 : decode m_J1_charAt.2.1 0 = .ok (.iload_n 1, 1) := by decide +kernel
theorem dJ1_charAt_1 : decode m_J1_charAt.2.1 1 = .ok (.aload_n 0, 1) := by decide +kernel
theorem dJ1_charAt_2 : decode m_J1_charAt.2.1 2 = .ok (.arraylength, 1) := by decide +kernel
theorem dJ1_charAt_3 : decode m_J1_charAt.2.1 3 = .ok (.invokestatic 9, 3) := by decide +kernel
theorem dJ1_charAt_6 : decode m_J1_charAt.2.1 6 = .ok (.aload_n 0, 1) := by decide +kernel
theorem dJ1_charAt_7 : decode m_J1_charAt.2.1 7 = .ok (.iload_n 1, 1) := by decide +kernel
theorem dJ1_charAt_8 : decode m_J1_charAt.2.1 8 = .ok (.baload, 1) := by decide +kernel
theorem dJ1_charAt_9 : decode m_J1_charAt.2.1 9 = .ok (.sipush 255, 3) := by decide +kernel
theorem dJ1_charAt_12 : decode m_J1_charAt.2.1 12 = .ok (.iand, 1) := by decide +kernel
theorem dJ1_charAt_13 : decode m_J1_charAt.2.1 13 = .ok (.i2c, 1) := by decide +kernel
theorem dJ1_charAt_14 : decode m_J1_charAt.2.1 14 = .ok (.ireturn, 1) := by decide +kernel
theorem dJ0_checkIndex_0 : decode m_J0_checkIndex.2.1 0 = .ok (.iload_n 0, 1) := by decide +kernel
theorem dJ0_checkIndex_1 : decode m_J0_checkIndex.2.1 1 = .ok (.iload_n 1, 1) := by decide +kernel
theorem dJ0_checkIndex_2 : decode m_J0_checkIndex.2.1 2 = .ok (.getstatic 1053, 3) := by decide +kernel
theorem dJ0_checkIndex_5 : decode m_J0_checkIndex.2.1 5 = .ok (.invokestatic 1059, 3) := by decide +kernel
theorem dJ0_checkIndex_8 : decode m_J0_checkIndex.2.1 8 = .ok (.pop, 1) := by decide +kernel
theorem dJ0_checkIndex_9 : decode m_J0_checkIndex.2.1 9 = .ok (.return_, 1) := by decide +kernel
theorem dJ3_checkIndex_0 : decode m_J3_checkIndex.2.1 0 = .ok (.iload_n 0, 1) := by decide +kernel
theorem dJ3_checkIndex_1 : decode m_J3_checkIndex.2.1 1 = .ok (.ifCond .lt 8, 3) := by decide +kernel
theorem dJ3_checkIndex_4 : decode m_J3_checkIndex.2.1 4 = .ok (.iload_n 0, 1) := by decide +kernel
theorem dJ3_checkIndex_5 : decode m_J3_checkIndex.2.1 5 = .ok (.iload_n 1, 1) := by decide +kernel
theorem dJ3_checkIndex_6 : decode m_J3_checkIndex.2.1 6 = .ok (.if_icmp .lt 10, 3) := by decide +kernel
theorem dJ3_checkIndex_9 : decode m_J3_checkIndex.2.1 9 = .ok (.aload_n 2, 1) := by decide +kernel
theorem dJ3_checkIndex_10 : decode m_J3_checkIndex.2.1 10 = .ok (.iload_n 0, 1) := by decide +kernel
theorem dJ3_checkIndex_11 : decode m_J3_checkIndex.2.1 11 = .ok (.iload_n 1, 1) := by decide +kernel
theorem dJ3_checkIndex_12 : decode m_J3_checkIndex.2.1 12 = .ok (.invokestatic 95, 3) := by decide +kernel
theorem dJ3_checkIndex_15 : decode m_J3_checkIndex.2.1 15 = .ok (.athrow, 1) := by decide +kernel
theorem dJ3_checkIndex_16 : decode m_J3_checkIndex.2.1 16 = .ok (.iload_n 0, 1) := by decide +kernel
theorem dJ3_checkIndex_17 : decode m_J3_checkIndex.2.1 17 = .ok (.ireturn, 1) := by decide +kernel
theorem dJ0_indexOf1_0 : decode m_J0_indexOf1.2.1 0 = .ok (.aload_n 0, 1) := by decide +kernel
theorem dJ0_indexOf1_1 : decode m_J0_indexOf1.2.1 1 = .ok (.iload_n 1, 1) := by decide +kernel
theorem dJ0_indexOf1_2 : decode m_J0_indexOf1.2.1 2 = .ok (.iconst 0, 1) := by decide +kernel
theorem dJ0_indexOf1_3 : decode m_J0_indexOf1.2.1 3 = .ok (.invokevirtual 633, 3) := by decide +kernel
theorem dJ0_indexOf1_6 : decode m_J0_indexOf1.2.1 6 = .ok (.ireturn, 1) := by decide +kernel
theorem dJ0_indexOf2_0 : decode m_J0_indexOf2.2.1 0 = .ok (.aload_n 0, 1) := by decide +kernel
theorem dJ0_indexOf2_1 : decode m_J0_indexOf2.2.1 1 = .ok (.invokevirtual 492, 3) := by decide +kernel
theorem dJ0_indexOf2_4 : decode m_J0_indexOf2.2.1 4 = .ok (.ifCond .eq 19, 3) := by decide +kernel
theorem dJ0_indexOf2_7 : decode m_J0_indexOf2.2.1 7 = .ok (.aload_n 0, 1) := by decide +kernel
theorem dJ0_indexOf2_8 : decode m_J0_indexOf2.2.1 8 = .ok (.getfield 9, 3) := by decide +kernel
theorem dJ0_indexOf2_11 : decode m_J0_indexOf2.2.1 11 = .ok (.iload_n 1, 1) := by decide +kernel
theorem dJ0_indexOf2_12 : decode m_J0_indexOf2.2.1 12 = .ok (.iload_n 2, 1) := by decide +kernel
theorem dJ0_indexOf2_13 : decode m_J0_indexOf2.2.1 13 = .ok (.aload_n 0, 1) := by decide +kernel
theorem dJ0_indexOf2_14 : decode m_J0_indexOf2.2.1 14 = .ok (.invokevirtual 505, 3) := by decide +kernel
theorem dJ0_indexOf2_17 : decode m_J0_indexOf2.2.1 17 = .ok (.invokestatic 637, 3) := by decide +kernel
theorem dJ0_indexOf2_20 : decode m_J0_indexOf2.2.1 20 = .ok (.goto 16, 3) := by decide +kernel
theorem dJ0_indexOf2_23 : decode m_J0_indexOf2.2.1 23 = .ok (.aload_n 0, 1) := by decide +kernel
theorem dJ0_indexOf2_24 : decode m_J0_indexOf2.2.1 24 = .ok (.getfield 9, 3) := by decide +kernel
theorem dJ0_indexOf2_27 : decode m_J0_indexOf2.2.1 27 = .ok (.iload_n 1, 1) := by decide +kernel
theorem dJ0_indexOf2_28 : decode m_J0_indexOf2.2.1 28 = .ok (.iload_n 2, 1) := by decide +kernel
theorem dJ0_indexOf2_29 : decode m_J0_indexOf2.2.1 29 = .ok (.aload_n 0, 1) := by decide +kernel
theorem dJ0_indexOf2_30 : decode m_J0_indexOf2.2.1 30 = .ok (.invokevirtual 505, 3) := by decide +kernel
theorem dJ0_indexOf2_33 : decode m_J0_indexOf2.2.1 33 = .ok (.invokestatic 640, 3) := by decide +kernel
theorem dJ0_indexOf2_36 : decode m_J0_indexOf2.2.1 36 = .ok (.ireturn, 1) := by decide +kernel
theorem dJ1_indexOf_0 : decode m_J1_indexOf.2.1 0 = .ok (.iload_n 1, 1) := by decide +kernel
theorem dJ1_indexOf_1 : decode m_J1_indexOf.2.1 1 = .ok (.invokestatic 88, 3) := by decide +kernel
theorem dJ1_indexOf_4 : decode m_J1_indexOf.2.1 4 = .ok (.ifCond .ne 5, 3) := by decide +kernel
theorem dJ1_indexOf_7 : decode m_J1_indexOf.2.1 7 = .ok (.iconst (-1), 1) := by decide +kernel
theorem dJ1_indexOf_8 : decode m_J1_indexOf.2.1 8 = .ok (.ireturn, 1) := by decide +kernel
theorem dJ1_indexOf_9 : decode m_J1_indexOf.2.1 9 = .ok (.iload_n 2, 1) := by decide +kernel
theorem dJ1_indexOf_10 : decode m_J1_indexOf.2.1 10 = .ok (.iconst 0, 1) := by decide +kernel
theorem dJ1_indexOf_11 : decode m_J1_indexOf.2.1 11 = .ok (.invokestatic 92, 3) := by decide +kernel
theorem dJ1_indexOf_14 : decode m_J1_indexOf.2.1 14 = .ok (.istore_n 2, 1) := by decide +kernel
theorem dJ1_indexOf_15 : decode m_J1_indexOf.2.1 15 = .ok (.iload_n 3, 1) := by decide +kernel
theorem dJ1_indexOf_16 : decode m_J1_indexOf.2.1 16 = .ok (.aload_n 0, 1) := by decide +kernel
theorem dJ1_indexOf_17 : decode m_J1_indexOf.2.1 17 = .ok (.arraylength, 1) := by decide +kernel
theorem dJ1_indexOf_18 : decode m_J1_indexOf.2.1 18 = .ok (.invokestatic 38, 3) := by decide +kernel
theorem dJ1_indexOf_21 : decode m_J1_indexOf.2.1 21 = .ok (.istore_n 3, 1) := by decide +kernel
theorem dJ1_indexOf_22 : decode m_J1_indexOf.2.1 22 = .ok (.iload_n 2, 1) := by decide +kernel
theorem dJ1_indexOf_23 : decode m_J1_indexOf.2.1 23 = .ok (.iload_n 3, 1) := by decide +kernel
theorem dJ1_indexOf_24 : decode m_J1_indexOf.2.1 24 = .ok (.if_icmp .lt 5, 3) := by decide +kernel
theorem dJ1_indexOf_27 : decode m_J1_indexOf.2.1 27 = .ok (.iconst (-1), 1) := by decide +kernel
theorem dJ1_indexOf_28 : decode m_J1_indexOf.2.1 28 = .ok (.ireturn, 1) := by decide +kernel
theorem dJ1_indexOf_29 : decode m_J1_indexOf.2.1 29 = .ok (.aload_n 0, 1) := by decide +kernel
theorem dJ1_indexOf_30 : decode m_J1_indexOf.2.1 30 = .ok (.iload_n 1, 1) := by decide +kernel
theorem dJ1_indexOf_31 : decode m_J1_indexOf.2.1 31 = .ok (.iload_n 2, 1) := by decide +kernel
theorem dJ1_indexOf_32 : decode m_J1_indexOf.2.1 32 = .ok (.iload_n 3, 1) := by decide +kernel
theorem dJ1_indexOf_33 : decode m_J1_indexOf.2.1 33 = .ok (.invokestatic 95, 3) := by decide +kernel
theorem dJ1_indexOf_36 : decode m_J1_indexOf.2.1 36 = .ok (.ireturn, 1) := by decide +kernel
theorem dJ1_canEncode_0 : decode m_J1_canEncode.2.1 0 = .ok (.iload_n 0, 1) := by decide +kernel
theorem dJ1_canEncode_1 : decode m_J1_canEncode.2.1 1 = .ok (.ifCond .lt 14, 3) := by decide +kernel
theorem dJ1_canEncode_4 : decode m_J1_canEncode.2.1 4 = .ok (.iload_n 0, 1) := by decide +kernel
theorem dJ1_canEncode_5 : decode m_J1_canEncode.2.1 5 = .ok (.sipush 255, 3) := by decide +kernel
theorem dJ1_canEncode_8 : decode m_J1_canEncode.2.1 8 = .ok (.if_icmp .gt 7, 3) := by decide +kernel
theorem dJ1_canEncode_11 : decode m_J1_canEncode.2.1 11 = .ok (.iconst 1, 1) := by decide +kernel
theorem dJ1_canEncode_12 : decode m_J1_canEncode.2.1 12 = .ok (.goto 4, 3) := by decide +kernel
theorem dJ1_canEncode_15 : decode m_J1_canEncode.2.1 15 = .ok (.iconst 0, 1) := by decide +kernel
theorem dJ1_canEncode_16 : decode m_J1_canEncode.2.1 16 = .ok (.ireturn, 1) := by decide +kernel
theorem dJ1_indexOfChar_0 : decode m_J1_indexOfChar.2.1 0 = .ok (.iload_n 1, 1) := by decide +kernel
theorem dJ1_indexOfChar_1 : decode m_J1_indexOfChar.2.1 1 = .ok (.i2b, 1) := by decide +kernel
theorem dJ1_indexOfChar_2 : decode m_J1_indexOfChar.2.1 2 = .ok (.istore 4, 2) := by decide +kernel
theorem dJ1_indexOfChar_4 : decode m_J1_indexOfChar.2.1 4 = .ok (.iload_n 2, 1) := by decide +kernel
theorem dJ1_indexOfChar_5 : decode m_J1_indexOfChar.2.1 5 = .ok (.istore 5, 2) := by decide +kernel
theorem dJ1_indexOfChar_7 : decode m_J1_indexOfChar.2.1 7 = .ok (.iload 5, 2) := by decide +kernel
theorem dJ1_indexOfChar_9 : decode m_J1_indexOfChar.2.1 9 = .ok (.iload_n 3, 1) := by decide +kernel
theorem dJ1_indexOfChar_10 : decode m_J1_indexOfChar.2.1 10 = .ok (.if_icmp .ge 21, 3) := by decide +kernel
theorem dJ1_indexOfChar_13 : decode m_J1_indexOfChar.2.1 13 = .ok (.aload_n 0, 1) := by decide +kernel
theorem dJ1_indexOfChar_14 : decode m_J1_indexOfChar.2.1 14 = .ok (.iload 5, 2) := by decide +kernel
theorem dJ1_indexOfChar_16 : decode m_J1_indexOfChar.2.1 16 = .ok (.baload, 1) := by decide +kernel
theorem dJ1_indexOfChar_17 : decode m_J1_indexOfChar.2.1 17 = .ok (.iload 4, 2) := by decide +kernel
theorem dJ1_indexOfChar_19 : decode m_J1_indexOfChar.2.1 19 = .ok (.if_icmp .ne 6, 3) := by decide +kernel
theorem dJ1_indexOfChar_22 : decode m_J1_indexOfChar.2.1 22 = .ok (.iload 5, 2) := by decide +kernel
theorem dJ1_indexOfChar_24 : decode m_J1_indexOfChar.2.1 24 = .ok (.ireturn, 1) := by decide +kernel
theorem dJ1_indexOfChar_25 : decode m_J1_indexOfChar.2.1 25 = .ok (.iinc 5 1, 3) := by decide +kernel
theorem dJ1_indexOfChar_28 : decode m_J1_indexOfChar.2.1 28 = .ok (.goto (-21), 3) := by decide +kernel
theorem dJ1_indexOfChar_31 : decode m_J1_indexOfChar.2.1 31 = .ok (.iconst (-1), 1) := by decide +kernel
theorem dJ1_indexOfChar_32 : decode m_J1_indexOfChar.2.1 32 = .ok (.ireturn, 1) := by decide +kernel
theorem k0_J0_length : CK0 m_J0_length 0 := ⟨(gw_1 (List.mem_of_getElem? (l := tables_1_1) (i := 15) (by decide +kernel)) rfl), (gw_4 (List.mem_of_getElem? (l := tables_1_4) (i := 1) (by decide +kernel)) rfl), ⟨by decide +kernel, by decide +kernel, by decide +kernel⟩, by decide⟩
theorem k0_J0_coder : CK0 m_J0_coder 0 := ⟨(gw_1 (List.mem_of_getElem? (l := tables_1_1) (i := 15) (by decide +kernel)) rfl), (gw_4 (List.mem_of_getElem? (l := tables_1_4) (i := 5) (by decide +kernel)) rfl), ⟨by decide +kernel, by decide +kernel, by decide +kernel⟩, by decide⟩
theorem k0_J0_isLatin1 : CK0 m_J0_isLatin1 0 := ⟨(gw_1 (List.mem_of_getElem? (l := tables_1_1) (i := 15) (by decide +kernel)) rfl), (gw_4 (List.mem_of_getElem? (l := tables_1_4) (i := 15) (by decide +kernel)) rfl), ⟨by decide +kernel, by decide +kernel, by decide +kernel⟩, by decide⟩
theorem k0_J0_charAt : CK0 m_J0_charAt 1 := ⟨(gw_1 (List.mem_of_getElem? (l := tables_1_1) (i := 15) (by decide +kernel)) rfl), (gw_4 (List.mem_of_getElem? (l := tables_1_4) (i := 11) (by decide +kernel)) rfl), ⟨by decide +kernel, by decide +kernel, by decide +kernel⟩, by decide⟩
theorem k0_J1_charAt : CK0 m_J1_charAt 2 := ⟨(gw_1 (List.mem_of_getElem? (l := tables_1_1) (i := 16) (by decide +kernel)) rfl), (gw_4 (List.mem_of_getElem? (l := tables_1_4) (i := 18) (by decide +kernel)) rfl), ⟨by decide +kernel, by decide +kernel, by decide +kernel⟩, by decide⟩
theorem k0_J0_checkIndex : CK0 m_J0_checkIndex 2 := ⟨(gw_1 (List.mem_of_getElem? (l := tables_1_1) (i := 15) (by decide +kernel)) rfl), (gw_4 (List.mem_of_getElem? (l := tables_1_4) (i := 21) (by decide +kernel)) rfl), ⟨by decide +kernel, by decide +kernel, by decide +kernel⟩, by decide⟩
theorem k0_J3_checkIndex : CK0 m_J3_checkIndex 3 := ⟨(gw_1 (List.mem_of_getElem? (l := tables_1_1) (i := 17) (by decide +kernel)) rfl), (gw_4 (List.mem_of_getElem? (l := tables_1_4) (i := 26) (by decide +kernel)) rfl), ⟨by decide +kernel, by decide +kernel, by decide +kernel⟩, by decide⟩
theorem k0_J0_indexOf1 : CK0 m_J0_indexOf1 1 := ⟨(gw_1 (List.mem_of_getElem? (l := tables_1_1) (i := 15) (by decide +kernel)) rfl), (gw_4 (List.mem_of_getElem? (l := tables_1_4) (i := 75) (by decide +kernel)) rfl), ⟨by decide +kernel, by decide +kernel, by decide +kernel⟩, by decide⟩
theorem k0_J0_indexOf2 : CK0 m_J0_indexOf2 2 := ⟨(gw_1 (List.mem_of_getElem? (l := tables_1_1) (i := 15) (by decide +kernel)) rfl), (gw_4 (List.mem_of_getElem? (l := tables_1_4) (i := 79) (by decide +kernel)) rfl), ⟨by decide +kernel, by decide +kernel, by decide +kernel⟩, by decide⟩
theorem k0_J1_indexOf : CK0 m_J1_indexOf 4 := ⟨(gw_1 (List.mem_of_getElem? (l := tables_1_1) (i := 16) (by decide +kernel)) rfl), (gw_4 (List.mem_of_getElem? (l := tables_1_4) (i := 83) (by decide +kernel)) rfl), ⟨by decide +kernel, by decide +kernel, by decide +kernel⟩, by decide⟩
theorem k0_J1_canEncode : CK0 m_J1_canEncode 1 := ⟨(gw_1 (List.mem_of_getElem? (l := tables_1_1) (i := 16) (by decide +kernel)) rfl), (gw_4 (List.mem_of_getElem? (l := tables_1_4) (i := 86) (by decide +kernel)) rfl), ⟨by decide +kernel, by decide +kernel, by decide +kernel⟩, by decide⟩
theorem k0_J1_indexOfChar : CK0 m_J1_indexOfChar 4 := ⟨(gw_1 (List.mem_of_getElem? (l := tables_1_1) (i := 16) (by decide +kernel)) rfl), (gw_4 (List.mem_of_getElem? (l := tables_1_4) (i := 91) (by decide +kernel)) rfl), ⟨by decide +kernel, by decide +kernel, by decide +kernel⟩, by decide⟩
def CKvs (own : String) (idx : Nat) (y2 : Md) (n : Nat) : Prop := CK0 y2 n ∧ Cond.methodLink own idx y2.1 ∈ GW ∧ Cond.instanceMethod y2.1 ∈ GW ∧ Cond.selects y2.1.cls y2.1 y2.1 ∈ GW ∧ y2.1.cls = "java/lang/String"
theorem cs_RX8_104 : CKvs RX8 104 m_J0_length 0 := ⟨k0_J0_length, (gw_3 (List.mem_of_getElem? (l := tables_1_3) (i := 238) (by decide +kernel)) rfl), (gw_3 (List.mem_of_getElem? (l := tables_1_3) (i := 239) (by decide +kernel)) rfl), (gw_4 (List.mem_of_getElem? (l := tables_1_4) (i := 0) (by decide +kernel)) rfl), rfl⟩
theorem cs_RX8_108 : CKvs RX8 108 m_J0_charAt 1 := ⟨k0_J0_charAt, (gw_4 (List.mem_of_getElem? (l := tables_1_4) (i := 8) (by decide +kernel)) rfl), (gw_4 (List.mem_of_getElem? (l := tables_1_4) (i := 9) (by decide +kernel)) rfl), (gw_4 (List.mem_of_getElem? (l := tables_1_4) (i := 10) (by decide +kernel)) rfl), rfl⟩
theorem cs_RX8_131 : CKvs RX8 131 m_J0_indexOf1 1 := ⟨k0_J0_indexOf1, (gw_4 (List.mem_of_getElem? (l := tables_1_4) (i := 72) (by decide +kernel)) rfl), (gw_4 (List.mem_of_getElem? (l := tables_1_4) (i := 73) (by decide +kernel)) rfl), (gw_4 (List.mem_of_getElem? (l := tables_1_4) (i := 74) (by decide +kernel)) rfl), rfl⟩
theorem cs_RJ0_335 : CKvs RJ0 335 m_J0_coder 0 := ⟨k0_J0_coder, (gw_4 (List.mem_of_getElem? (l := tables_1_4) (i := 2) (by decide +kernel)) rfl), (gw_4 (List.mem_of_getElem? (l := tables_1_4) (i := 3) (by decide +kernel)) rfl), (gw_4 (List.mem_of_getElem? (l := tables_1_4) (i := 4) (by decide +kernel)) rfl), rfl⟩
theorem cs_RJ0_492 : CKvs RJ0 492 m_J0_isLatin1 0 := ⟨k0_J0_isLatin1, (gw_4 (List.mem_of_getElem? (l := tables_1_4) (i := 12) (by decide +kernel)) rfl), (gw_4 (List.mem_of_getElem? (l := tables_1_4) (i := 13) (by decide +kernel)) rfl), (gw_4 (List.mem_of_getElem? (l := tables_1_4) (i := 14) (by decide +kernel)) rfl), rfl⟩
theorem cs_RJ0_633 : CKvs RJ0 633 m_J0_indexOf2 2 := ⟨k0_J0_indexOf2, (gw_4 (List.mem_of_getElem? (l := tables_1_4) (i := 76) (by decide +kernel)) rfl), (gw_4 (List.mem_of_getElem? (l := tables_1_4) (i := 77) (by decide +kernel)) rfl), (gw_4 (List.mem_of_getElem? (l := tables_1_4) (i := 78) (by decide +kernel)) rfl), rfl⟩
theorem cs_RJ0_505 : CKvs RJ0 505 m_J0_length 0 := ⟨k0_J0_length, (gw_4 (List.mem_of_getElem? (l := tables_1_4) (i := 80) (by decide +kernel)) rfl), (gw_3 (List.mem_of_getElem? (l := tables_1_3) (i := 239) (by decide +kernel)) rfl), (gw_4 (List.mem_of_getElem? (l := tables_1_4) (i := 0) (by decide +kernel)) rfl), rfl⟩
theorem cz_RJ0_495 : CKs RJ0 495 m_J1_charAt 2 := ⟨k0_J1_charAt, (gw_4 (List.mem_of_getElem? (l := tables_1_4) (i := 16) (by decide +kernel)) rfl), (gw_4 (List.mem_of_getElem? (l := tables_1_4) (i := 17) (by decide +kernel)) rfl)⟩
theorem cz_RJ1_9 : CKs RJ1 9 m_J0_checkIndex 2 := ⟨k0_J0_checkIndex, (gw_4 (List.mem_of_getElem? (l := tables_1_4) (i := 19) (by decide +kernel)) rfl), (gw_4 (List.mem_of_getElem? (l := tables_1_4) (i := 20) (by decide +kernel)) rfl)⟩
theorem cz_RJ0_1059 : CKs RJ0 1059 m_J3_checkIndex 3 := ⟨k0_J3_checkIndex, (gw_4 (List.mem_of_getElem? (l := tables_1_4) (i := 24) (by decide +kernel)) rfl), (gw_4 (List.mem_of_getElem? (l := tables_1_4) (i := 25) (by decide +kernel)) rfl)⟩
theorem cz_RJ0_637 : CKs RJ0 637 m_J1_indexOf 4 := ⟨k0_J1_indexOf, (gw_4 (List.mem_of_getElem? (l := tables_1_4) (i := 81) (by decide +kernel)) rfl), (gw_4 (List.mem_of_getElem? (l := tables_1_4) (i := 82) (by decide +kernel)) rfl)⟩
theorem cz_RJ1_88 : CKs RJ1 88 m_J1_canEncode 1 := ⟨k0_J1_canEncode, (gw_4 (List.mem_of_getElem? (l := tables_1_4) (i := 84) (by decide +kernel)) rfl), (gw_4 (List.mem_of_getElem? (l := tables_1_4) (i := 85) (by decide +kernel)) rfl)⟩
theorem cz_RJ1_95 : CKs RJ1 95 m_J1_indexOfChar 4 := ⟨k0_J1_indexOfChar, (gw_4 (List.mem_of_getElem? (l := tables_1_4) (i := 89) (by decide +kernel)) rfl), (gw_4 (List.mem_of_getElem? (l := tables_1_4) (i := 90) (by decide +kernel)) rfl)⟩
theorem fj_38 : Cond.fieldLink RJ0 38 "java/lang/String" "COMPACT_STRINGS" "Z" ∈ GW := (gw_4 (List.mem_of_getElem? (l := tables_1_4) (i := 6) (by decide +kernel)) rfl)
theorem fj_9 : Cond.fieldLink RJ0 9 "java/lang/String" "value" "[B" ∈ GW := (gw_7 (List.mem_of_getElem? (l := tables_1_7) (i := 190) (by decide +kernel)) rfl)
theorem fj_15 : Cond.fieldLink RJ0 15 "java/lang/String" "coder" "B" ∈ GW := (gw_7 (List.mem_of_getElem? (l := tables_1_7) (i := 191) (by decide +kernel)) rfl)
theorem fj_1053 : Cond.fieldLink RJ0 1053 "jdk/internal/util/Preconditions" "SIOOBE_FORMATTER" "Ljava/util/function/BiFunction;" ∈ GW := (gw_4 (List.mem_of_getElem? (l := tables_1_4) (i := 22) (by decide +kernel)) rfl)
theorem jm_92 : Cond.methodLink RJ1 92 Lib.Math.max.name ∈ GW := (gw_4 (List.mem_of_getElem? (l := tables_1_4) (i := 87) (by decide +kernel)) rfl)
theorem jm_38 : Cond.methodLink RJ1 38 Lib.Math.min.name ∈ GW := (gw_4 (List.mem_of_getElem? (l := tables_1_4) (i := 88) (by decide +kernel)) rfl)
theorem jm_max : Cond.static Lib.Math.max.name ∈ GW ∧ Cond.initialized "java/lang/Math" ∈ GW ∧ Cond.code Lib.Math.max.name Lib.Math.max.code 2 (some .int) ∈ GW := ⟨(gw_3 (List.mem_of_getElem? (l := tables_1_3) (i := 78) (by decide +kernel)) rfl), (gw_1 (List.mem_of_getElem? (l := tables_1_1) (i := 13) (by decide +kernel)) rfl), (gw_3 (List.mem_of_getElem? (l := tables_1_3) (i := 79) (by decide +kernel)) rfl)⟩
theorem jm_min : Cond.static Lib.Math.min.name ∈ GW ∧ Cond.initialized "java/lang/Math" ∈ GW ∧ Cond.code Lib.Math.min.name Lib.Math.min.code 2 (some .int) ∈ GW := ⟨(gw_3 (List.mem_of_getElem? (l := tables_1_3) (i := 95) (by decide +kernel)) rfl), (gw_1 (List.mem_of_getElem? (l := tables_1_1) (i := 13) (by decide +kernel)) rfl), (gw_3 (List.mem_of_getElem? (l := tables_1_3) (i := 96) (by decide +kernel)) rfl)⟩
def kLn (i : Nat) : Nat := [4, 3, 4, 4, 3, 2].getD i 0
def kCh (i j : Nat) : Int32 := (kBy.getD i []).getD j 0
section SROWS
variable {G : Gl} {y : Md} {d mc ms ce sl pc : Nat} {lo : List (Nat × Value)} {st : List Value} {X : Sh} {M : Mm} {Q : Sh → Mm → Option Value → Prop}
theorem wp_tret {v : Int32} {ty : FieldType} (hd : decode y.2.1 pc = .ok (.ireturn, 1)) (hr : y.2.2.2 = some ty) (hn : narrow ty (.int v) = .int v) (h1 : ce = mc) (h2 : sl ≤ ms) (hq : Q X M (some (.int v))) : Wp G y d mc ms ce sl pc lo [.int v] X M Q := by
  intro p l e s m args below meth c H locs ls hC hR hz hS hl
  subst h1
  refine W.sized (fun hsz => ?_)
  have hsz2 := hR.size hz hC.2.2.2.2.2.2.2.2.2.2 hS hsz
  refine W.widen (Nat.le_refl _) h2 ?_
  exact W.zret hC.1 hC.2.1 (hC.2.2.2.1.trans hr) hn (fun t ht hw => ⟨⟨_, X, M, rfl, hq, by rw [ht]; exact hR, by rw [ht]; exact hsz2⟩, hS.F ht⟩) hS.2.2 hd hC.2.2.2.2.1
theorem wn_tret {v : Int32} {ty : FieldType} {Q : Mm → Int32 → Prop} (hd : decode y.2.1 pc = .ok (.ireturn, 1)) (hr : y.2.2.2 = some ty) (hn : narrow ty (.int v) = .int v) (h : Q M v) : Wn G y d pc lo [.int v] X M Q := wp_tret hd hr hn rfl (Nat.le_refl _) ⟨rfl, v, rfl, h⟩
theorem wp_compact {idx : Nat} (hd : decode y.2.1 pc = .ok (.getstatic idx, 3)) (hw : Cond.fieldLink y.1.cls idx "java/lang/String" "COMPACT_STRINGS" "Z" ∈ GW) (kk : Wp G y d mc ms ce sl (pc + 3) lo (.int 1 :: st) X M Q) : Wp G y d mc ms ce sl pc lo st X M Q :=
  fun p l e s m args below meth c H locs ls hC hR hz hS hl => va_gets hC.1 hC.2.1 hC.2.2.2.2.2.2.2.2.1.2.2.2.2.2.1 hS hC.2.2.2.2.2.1 (hC.2.2.2.2.2.2.1 _ hw) (fun _ h => h) hd (kk p l e s m args below meth c H locs ls hC hR hz hS hl)
theorem wp_sioobe {idx : Nat} (hd : decode y.2.1 pc = .ok (.getstatic idx, 3)) (hw : Cond.fieldLink y.1.cls idx "jdk/internal/util/Preconditions" "SIOOBE_FORMATTER" "Ljava/util/function/BiFunction;" ∈ GW) (kk : ∀ v : Value, v = .null ∨ (∃ t : Nat, v = .ref t) → Wp G y d mc ms ce sl (pc + 3) lo (v :: st) X M Q) : Wp G y d mc ms ce sl pc lo st X M Q := by
  intro p l e s m args below meth c H locs ls hC hR hz hS hl
  rcases hC.2.2.2.2.2.2.2.2.1.2.2.2.2.2.2.1 with hZ | ⟨t, hZ⟩
  · exact va_gets hC.1 hC.2.1 hZ hS hC.2.2.2.2.2.1 (hC.2.2.2.2.2.2.1 _ hw) (fun _ h => h) hd (kk _ (Or.inl rfl) p l e s m args below meth c H locs ls hC hR hz hS hl)
  · exact va_gets hC.1 hC.2.1 hZ hS hC.2.2.2.2.2.1 (hC.2.2.2.2.2.2.1 _ hw) (fun _ h => h) hd (kk _ (Or.inr ⟨t, rfl⟩) p l e s m args below meth c H locs ls hC hR hz hS hl)
theorem wp_svalue {idx i : Nat} (hd : decode y.2.1 pc = .ok (.getfield idx, 3)) (hw : Cond.fieldLink y.1.cls idx "java/lang/String" "value" "[B" ∈ GW) (hi : i < 6) (kk : Wp G y d mc ms ce sl (pc + 3) lo (.ref (G.2 (16 + i)) :: st) X M Q) : Wp G y d mc ms ce sl pc lo (.ref (G.2 (10 + i)) :: st) X M Q :=
  fun p l e s m args below meth c H locs ls hC hR hz hS hl => vk_getf hC.1 hC.2.1 (hC.2.2.2.2.2.2.2.2.1.2.2.2.2.1.1 i hi).2.2.1 hS hC.2.2.2.2.2.1 (hC.2.2.2.2.2.2.1 _ hw) (fun _ h => h) hd (kk p l e s m args below meth c H locs ls hC hR hz hS hl)
theorem wp_scoder {idx i : Nat} (hd : decode y.2.1 pc = .ok (.getfield idx, 3)) (hw : Cond.fieldLink y.1.cls idx "java/lang/String" "coder" "B" ∈ GW) (hi : i < 6) (kk : Wp G y d mc ms ce sl (pc + 3) lo (.int 0 :: st) X M Q) : Wp G y d mc ms ce sl pc lo (.ref (G.2 (10 + i)) :: st) X M Q :=
  fun p l e s m args below meth c H locs ls hC hR hz hS hl => vk_getf hC.1 hC.2.1 (hC.2.2.2.2.2.2.2.2.1.2.2.2.2.1.1 i hi).2.1 hS hC.2.2.2.2.2.1 (hC.2.2.2.2.2.2.1 _ hw) (fun _ h => h) hd (kk p l e s m args below meth c H locs ls hC hR hz hS hl)
theorem wp_slen {i : Nat} (hd : decode y.2.1 pc = .ok (.arraylength, 1)) (hi : i < 6) (kk : Wp G y d mc ms ce sl (pc + 1) lo (.int (nI (kLn i)) :: st) X M Q) : Wp G y d mc ms ce sl pc lo (.ref (G.2 (16 + i)) :: st) X M Q :=
  fun p l e s m args below meth c H locs ls hC hR hz hS hl => va_tlen hC.1 hC.2.1 (hC.2.2.2.2.2.2.2.2.1.2.2.2.2.1.1 i hi).2.2.2 hS rfl hd (kk p l e s m args below meth c H locs ls hC hR hz hS hl)
theorem kLn_le {i : Nat} (hi : i < 6) : kLn i ≤ 4 := by
  match i, hi with
  | 0, _ => decide
  | 1, _ => decide
  | 2, _ => decide
  | 3, _ => decide
  | 4, _ => decide
  | 5, _ => decide
theorem wp_sbald {i j : Nat} (hd : decode y.2.1 pc = .ok (.baload, 1)) (hi : i < 6) (hj : j < kLn i) (kk : Wp G y d mc ms ce sl (pc + 1) lo (.int (kCh i j) :: st) X M Q) : Wp G y d mc ms ce sl pc lo (.int (nI j) :: .ref (G.2 (16 + i)) :: st) X M Q := by
  intro p l e s m args below meth c H locs ls hC hR hz hS hl
  have := kLn_le hi
  have hin : vp_in (nI j) (kLn i) := nI_in hj (by omega)
  refine va_tb hC.1 hC.2.1 (hC.2.2.2.2.2.2.2.2.1.2.2.2.2.1.1 i hi).2.2.2 hS hin ?_ hd (kk p l e s m args below meth c H locs ls hC hR hz hS hl)
  rw [nI_clamp (by omega)]
  rfl
theorem wp_i2b {x : Int32} (hd : decode y.2.1 pc = .ok (.i2b, 1)) (k : Wp G y d mc ms ce sl (pc + 1) lo (.int x.toInt8.toInt32 :: st) X M Q) : Wp G y d mc ms ce sl pc lo (.int x :: st) X M Q := by
  intro p l e s m args below meth c H locs ls hC hR hz hS hl
  exact lv_i2b hC.1 hC.2.1 hd rfl (k p l e s m args below meth c H locs ls hC hR hz hS hl)
theorem wp_svi {y2 : Md} {n idx i : Nat} {as rest : List Value} {Q1 : Mm → Int32 → Prop} (hd : decode y.2.1 pc = .ok (.invokevirtual idx, 3)) (hw : CKvs y.1.cls idx y2 n) (hi : i < 6) (hn : as.length = n) (hst : st = as.reverse ++ .ref (G.2 (10 + i)) :: rest) (hc8 : (rest.map fun v => v.category).sum ≤ 8) (hM : Cn G y2 d (.ref (G.2 (10 + i)) :: as) X M Q1)
    (kk : ∀ M2 x, Q1 M2 x → Wp G y (d + 1) 0 0 0 0 (pc + 3) lo (.int x :: rest) X M2 Q) : Wp G y (d + 1) 0 0 0 0 pc lo st X M Q := by
  intro p l e s m args below meth c H locs ls hC hR hz hS hl
  subst hst
  have hts := hC.2.2.2.2.2.2.1
  obtain ⟨⟨hi0, hcd, hdd, h21⟩, hl1, hins, hsel, hcls⟩ := hw
  refine W.sized (fun hsz => ?_)
  have hsz2 := hR.size hz hC.2.2.2.2.2.2.2.2.2.2 hS hsz
  obtain ⟨cell, c1, c2, c3⟩ := vk_recv hC.2.2.2.2.2.2.2.2.1.2.2.2.2.1 hi hS
  refine wp_back hC hz hS hl (va_runV (bytes := y2.2.1) (maxL := y2.2.2.1) (ret := y2.2.2.2) (n := n) (nL := y.2.2.1) (Ts := GW) (C := y2.1.cls) ⟨hC.1, hC.2.1, hC.2.2.1, hC.2.2.2.2.2.1, hts⟩ (hM l) ⟨callB_of n hts (gw_wsm hcd) rfl rfl rfl (hts _ hi0) (hts _ hl1) hdd (rmd_fit h21), hts _ hins, hts _ hsel⟩ ⟨Pc_blind, ⟨cell, c1, c2, by rw [hcls]; exact c3⟩, Pc_of hC.2.2.2.2.2.2.2.1 hC.2.2.2.2.2.2.2.2.1 hS hR hsz2⟩ rfl hn hl.1 rfl (lv_room hc8) hd ⟨Nat.le_refl _, Nat.le_refl _⟩) (fun _ _ _ h => by rw [h.1]; rfl) (fun X2 M2 v h => by obtain ⟨rfl, x, rfl, h⟩ := h; exact kk M2 x h)
theorem wp_svip {y2 : Md} {n idx i : Nat} {as rest : List Value} {e : Int32} (hd : decode y.2.1 pc = .ok (.invokevirtual idx, 3)) (hw : CKvs y.1.cls idx y2 n) (hi : i < 6) (hn : as.length = n) (hst : st = as.reverse ++ .ref (G.2 (10 + i)) :: rest) (hc8 : (rest.map fun v => v.category).sum ≤ 8) (hM : Cn G y2 d (.ref (G.2 (10 + i)) :: as) X M (fun M2 x => M2 = M ∧ x = e))
    (kk : Wp G y (d + 1) 0 0 0 0 (pc + 3) lo (.int e :: rest) X M Q) : Wp G y (d + 1) 0 0 0 0 pc lo st X M Q :=
  wp_svi hd hw hi hn hst hc8 hM (fun M2 x h => by rw [h.1, h.2]; exact kk)
theorem wp_csv {y2 : Md} {n idx : Nat} {as rest : List Value} {Q1 : Mm → Prop} (hd : decode y.2.1 pc = .ok (.invokestatic idx, 3)) (hw : CKs y.1.cls idx y2 n) (_hown : (0 : Nat) = 0) (hn : as.length = n) (hst : st = as.reverse ++ rest) (hc8 : (rest.map fun v => v.category).sum ≤ 8) (hM : Cv G y2 d as X M Q1)
    (kk : ∀ M2, Q1 M2 → Wp G y (d + 1) 0 0 0 0 (pc + 3) lo rest X M2 Q) : Wp G y (d + 1) 0 0 0 0 pc lo st X M Q :=
  wp_callS hd hw hn hst hc8 (Nat.le_refl _) (Nat.le_refl _) hM (fun _ _ _ h => by rw [h.1]; rfl) (fun X2 M2 v h => by obtain ⟨rfl, rfl, h⟩ := h; exact kk M2 h)
end SROWS
theorem cp_J0_coder (G : Gl) (d : Nat) (X : Sh) (M : Mm) (i : Nat) (hi : i < 6) : Cn G m_J0_coder d [.ref (G.2 (10 + i))] X M (fun M2 r => M2 = M ∧ r = 0) := by
  refine Cn.of (by decide) (Nat.le_of_ble_eq_true rfl) ?_
  refine wp_compact dJ0_coder_0 fj_38 ?_
  refine wp_if_eq (tgt := 13) dJ0_coder_3 (by decide) (fun q => absurd q (by decide)) (fun _ => ?_)
  refine wp_aload_n 0 dJ0_coder_6 rfl rfl ?_
  refine wp_scoder dJ0_coder_7 fj_15 hi ?_
  refine wp_goto (tgt := 14) dJ0_coder_10 (by decide) ?_
  exact wn_tret dJ0_coder_14 rfl rfl ⟨rfl, rfl⟩
theorem cp_J0_isLatin1 (G : Gl) (d : Nat) (X : Sh) (M : Mm) (i : Nat) (hi : i < 6) : Cn G m_J0_isLatin1 d [.ref (G.2 (10 + i))] X M (fun M2 r => M2 = M ∧ r = 1) := by
  refine Cn.of (by decide) (Nat.le_of_ble_eq_true rfl) ?_
  refine wp_compact dJ0_isLatin1_0 fj_38 ?_
  refine wp_if_eq (tgt := 17) dJ0_isLatin1_3 (by decide) (fun q => absurd q (by decide)) (fun _ => ?_)
  refine wp_aload_n 0 dJ0_isLatin1_6 rfl rfl ?_
  refine wp_scoder dJ0_isLatin1_7 fj_15 hi ?_
  refine wp_if_ne (tgt := 17) dJ0_isLatin1_10 (by decide) (fun q => absurd rfl q) (fun _ => ?_)
  refine wp_iconst (v := 1) dJ0_isLatin1_13 rfl ?_
  refine wp_goto (tgt := 18) dJ0_isLatin1_14 (by decide) ?_
  exact wn_zret dJ0_isLatin1_18 rfl (Or.inr rfl) ⟨rfl, rfl⟩
theorem kLn_shr {i : Nat} (hi : i < 6) : nI (kLn i) >>> ((0 : Int32) &&& 31) = nI (kLn i) := by
  match i, hi with
  | 0, _ => decide
  | 1, _ => decide
  | 2, _ => decide
  | 3, _ => decide
  | 4, _ => decide
  | 5, _ => decide
theorem cp_J0_length (G : Gl) (d : Nat) (hd : 1 ≤ d) (X : Sh) (M : Mm) (i : Nat) (hi : i < 6) : Cn G m_J0_length d [.ref (G.2 (10 + i))] X M (fun M2 r => M2 = M ∧ r = nI (kLn i)) := by
  obtain ⟨d, rfl⟩ : ∃ d1, d = d1 + 1 := ⟨d - 1, by omega⟩
  refine Cn.of (by decide) (Nat.le_of_ble_eq_true rfl) ?_
  refine wp_aload_n 0 dJ0_length_0 rfl rfl ?_
  refine wp_svalue dJ0_length_1 fj_9 hi ?_
  refine wp_slen dJ0_length_4 hi ?_
  refine wp_aload_n 0 dJ0_length_5 rfl rfl ?_
  refine wp_svip dJ0_length_6 cs_RJ0_335 hi (as := []) rfl rfl (Nat.le_of_ble_eq_true rfl) (cp_J0_coder G d X M i hi) ?_
  refine wp_ishr dJ0_length_9 ?_
  rw [kLn_shr hi]
  exact wn_iret dJ0_length_10 rfl ⟨rfl, rfl⟩
theorem cp_J3_checkIndex (G : Gl) (d : Nat) (X : Sh) (M : Mm) (j n : Nat) (v : Value) (hv : v = .null ∨ ∃ t : Nat, v = .ref t) (hj : j < n) (hn : n < 2147483648) : Cn G m_J3_checkIndex d [.int (nI j), .int (nI n), v] X M (fun M2 r => M2 = M ∧ r = nI j) := by
  have go : Wn G m_J3_checkIndex d 0 [(0, .int (nI j)), (1, .int (nI n)), (2, v)] [] X M (fun M2 r => M2 = M ∧ r = nI j) := by
    refine wp_iload_n 0 dJ3_checkIndex_0 rfl rfl ?_
    refine wp_if_lt (tgt := 9) dJ3_checkIndex_1 (by decide) (fun q => absurd q (nI_pos (by omega))) (fun _ => ?_)
    refine wp_iload_n 0 dJ3_checkIndex_4 rfl rfl ?_
    refine wp_iload_n 1 dJ3_checkIndex_5 rfl rfl ?_
    refine wp_icmp_lt (tgt := 16) dJ3_checkIndex_6 (by decide) (fun _ => ?_) (fun q => absurd ((nI_ltI (by omega) (by omega)).mpr hj) q)
    refine wp_iload_n 0 dJ3_checkIndex_16 rfl rfl ?_
    exact wn_iret dJ3_checkIndex_17 rfl ⟨rfl, rfl⟩
  rcases hv with rfl | ⟨t, rfl⟩
  · exact Cn.of (by decide) (Nat.le_of_ble_eq_true rfl) go
  · exact Cn.of (by decide) (Nat.le_of_ble_eq_true rfl) go
theorem cp_J0_checkIndex (G : Gl) (d : Nat) (hd : 1 ≤ d) (X : Sh) (M : Mm) (j n : Nat) (hj : j < n) (hn : n < 2147483648) : Cv G m_J0_checkIndex d [.int (nI j), .int (nI n)] X M (fun M2 => M2 = M) := by
  obtain ⟨d, rfl⟩ : ∃ d1, d = d1 + 1 := ⟨d - 1, by omega⟩
  refine Cv.of (by decide) (Nat.le_of_ble_eq_true rfl) ?_
  refine wp_iload_n 0 dJ0_checkIndex_0 rfl rfl ?_
  refine wp_iload_n 1 dJ0_checkIndex_1 rfl rfl ?_
  refine wp_sioobe dJ0_checkIndex_2 fj_1053 (fun v hv => ?_)
  refine wp_csip dJ0_checkIndex_5 cz_RJ0_1059 rfl (as := [.int (nI j), .int (nI n), v]) rfl rfl (Nat.le_of_ble_eq_true rfl) (cp_J3_checkIndex G d X M j n v hv hj hn) ?_
  refine wp_pop dJ0_checkIndex_8 rfl ?_
  exact wv_ret dJ0_checkIndex_9 rfl rfl
theorem kCh_c {i j : Nat} (hi : i < 6) (hj : j < kLn i) : ((((kCh i j) &&& 255).toUInt32 % 65536).toInt32) = kCh i j ∧ narrow .char (.int (kCh i j)) = .int (kCh i j) ∧ ∃ b : Nat, 97 ≤ b ∧ b ≤ 122 ∧ kCh i j = nI b := by
  have h4 := kLn_le hi
  match i, hi, j, hj with
  | 0, _, 0, _ => exact ⟨by decide, rfl, 100, by omega, by omega, rfl⟩
  | 0, _, 1, _ => exact ⟨by decide, rfl, 114, by omega, by omega, rfl⟩
  | 0, _, 2, _ => exact ⟨by decide, rfl, 97, by omega, by omega, rfl⟩
  | 0, _, 3, _ => exact ⟨by decide, rfl, 119, by omega, by omega, rfl⟩
  | 1, _, 0, _ => exact ⟨by decide, rfl, 103, by omega, by omega, rfl⟩
  | 1, _, 1, _ => exact ⟨by decide, rfl, 97, by omega, by omega, rfl⟩
  | 1, _, 2, _ => exact ⟨by decide, rfl, 115, by omega, by omega, rfl⟩
  | 2, _, 0, _ => exact ⟨by decide, rfl, 108, by omega, by omega, rfl⟩
  | 2, _, 1, _ => exact ⟨by decide, rfl, 97, by omega, by omega, rfl⟩
  | 2, _, 2, _ => exact ⟨by decide, rfl, 116, by omega, by omega, rfl⟩
  | 2, _, 3, _ => exact ⟨by decide, rfl, 101, by omega, by omega, rfl⟩
  | 3, _, 0, _ => exact ⟨by decide, rfl, 104, by omega, by omega, rfl⟩
  | 3, _, 1, _ => exact ⟨by decide, rfl, 116, by omega, by omega, rfl⟩
  | 3, _, 2, _ => exact ⟨by decide, rfl, 98, by omega, by omega, rfl⟩
  | 3, _, 3, _ => exact ⟨by decide, rfl, 115, by omega, by omega, rfl⟩
  | 4, _, 0, _ => exact ⟨by decide, rfl, 104, by omega, by omega, rfl⟩
  | 4, _, 1, _ => exact ⟨by decide, rfl, 116, by omega, by omega, rfl⟩
  | 4, _, 2, _ => exact ⟨by decide, rfl, 105, by omega, by omega, rfl⟩
  | 5, _, 0, _ => exact ⟨by decide, rfl, 104, by omega, by omega, rfl⟩
  | 5, _, 1, _ => exact ⟨by decide, rfl, 99, by omega, by omega, rfl⟩
  | 0, _, j + 4, h => exact absurd h (by have : kLn 0 = 4 := rfl; omega)
  | 1, _, j + 3, h => exact absurd h (by have : kLn 1 = 3 := rfl; omega)
  | 2, _, j + 4, h => exact absurd h (by have : kLn 2 = 4 := rfl; omega)
  | 3, _, j + 4, h => exact absurd h (by have : kLn 3 = 4 := rfl; omega)
  | 4, _, j + 3, h => exact absurd h (by have : kLn 4 = 3 := rfl; omega)
  | 5, _, j + 2, h => exact absurd h (by have : kLn 5 = 2 := rfl; omega)
theorem cp_J1_charAt (G : Gl) (d : Nat) (hd : 2 ≤ d) (X : Sh) (M : Mm) (i j : Nat) (hi : i < 6) (hj : j < kLn i) : Cn G m_J1_charAt d [.ref (G.2 (16 + i)), .int (nI j)] X M (fun M2 r => M2 = M ∧ r = kCh i j) := by
  obtain ⟨d, rfl⟩ : ∃ d1, d = d1 + 1 := ⟨d - 1, by omega⟩
  have h4 := kLn_le hi
  obtain ⟨e1, e2, _⟩ := kCh_c hi hj
  refine Cn.of (by decide) (Nat.le_of_ble_eq_true rfl) ?_
  refine wp_iload_n 1 dJ1_charAt_0 rfl rfl ?_
  refine wp_aload_n 0 dJ1_charAt_1 rfl rfl ?_
  refine wp_slen dJ1_charAt_2 hi ?_
  refine wp_csv dJ1_charAt_3 cz_RJ1_9 rfl (as := [.int (nI j), .int (nI (kLn i))]) rfl rfl (Nat.le_of_ble_eq_true rfl) (cp_J0_checkIndex G d (by omega) X M j (kLn i) hj (by omega)) (fun M2 h => ?_)
  subst h
  refine wp_aload_n 0 dJ1_charAt_6 rfl rfl ?_
  refine wp_iload_n 1 dJ1_charAt_7 rfl rfl ?_
  refine wp_sbald dJ1_charAt_8 hi hj ?_
  refine wp_sipush (v := 255) dJ1_charAt_9 rfl ?_
  refine wp_iand dJ1_charAt_12 ?_
  refine wp_i2c dJ1_charAt_13 ?_
  rw [e1]
  exact wn_tret dJ1_charAt_14 rfl e2 ⟨rfl, rfl⟩
theorem cp_J0_charAt (G : Gl) (d : Nat) (hd : 3 ≤ d) (X : Sh) (M : Mm) (i j : Nat) (hi : i < 6) (hj : j < kLn i) : Cn G m_J0_charAt d [.ref (G.2 (10 + i)), .int (nI j)] X M (fun M2 r => M2 = M ∧ r = kCh i j) := by
  obtain ⟨d, rfl⟩ : ∃ d1, d = d1 + 1 := ⟨d - 1, by omega⟩
  obtain ⟨e1, e2, _⟩ := kCh_c hi hj
  refine Cn.of (by decide) (Nat.le_of_ble_eq_true rfl) ?_
  refine wp_aload_n 0 dJ0_charAt_0 rfl rfl ?_
  refine wp_svip dJ0_charAt_1 cs_RJ0_492 hi (as := []) rfl rfl (Nat.le_of_ble_eq_true rfl) (cp_J0_isLatin1 G d X M i hi) ?_
  refine wp_if_eq (tgt := 16) dJ0_charAt_4 (by decide) (fun q => absurd q (by decide)) (fun _ => ?_)
  refine wp_aload_n 0 dJ0_charAt_7 rfl rfl ?_
  refine wp_svalue dJ0_charAt_8 fj_9 hi ?_
  refine wp_iload_n 1 dJ0_charAt_11 rfl rfl ?_
  refine wp_csip dJ0_charAt_12 cz_RJ0_495 rfl (as := [.ref (G.2 (16 + i)), .int (nI j)]) rfl rfl (Nat.le_of_ble_eq_true rfl) (cp_J1_charAt G d (by omega) X M i j hi hj) ?_
  exact wn_tret dJ0_charAt_15 rfl e2 ⟨rfl, rfl⟩
theorem cp_J1_canEncode (G : Gl) (d : Nat) (X : Sh) (M : Mm) (c : Nat) (hc : c ≤ 255) : Cn G m_J1_canEncode d [.int (nI c)] X M (fun M2 r => M2 = M ∧ r = 1) := by
  refine Cn.of (by decide) (Nat.le_of_ble_eq_true rfl) ?_
  refine wp_iload_n 0 dJ1_canEncode_0 rfl rfl ?_
  refine wp_if_lt (tgt := 15) dJ1_canEncode_1 (by decide) (fun q => absurd q (nI_pos (by omega))) (fun _ => ?_)
  refine wp_iload_n 0 dJ1_canEncode_4 rfl rfl ?_
  refine wp_sipush (v := 255) dJ1_canEncode_5 rfl ?_
  refine wp_icmp_gt (tgt := 15) dJ1_canEncode_8 (by decide) (fun q => ?_) (fun _ => ?_)
  · have := (nI_ltI (a := 255) (by omega) (by omega)).mp q
    omega
  refine wp_iconst (v := 1) dJ1_canEncode_11 rfl ?_
  refine wp_goto (tgt := 16) dJ1_canEncode_12 (by decide) ?_
  exact wn_zret dJ1_canEncode_16 rfl (Or.inr rfl) ⟨rfl, rfl⟩
theorem byte_ch {c b : Nat} (hc : c ≤ 255) (hb : b ≤ 122) : nI b = (nI c).toInt8.toInt32 ↔ c = b := by
  have e1 : (nI b).toInt = b := nI_toInt (by omega)
  have e2 : (nI c).toInt = c := nI_toInt (by omega)
  have e3 : (nI c).toInt8.toInt32.toInt = (c : Int).bmod 256 := by
    rw [Int8.toInt_toInt32, Int32.toInt_toInt8, e2]
  rw [← Int32.toInt_inj, e1, e3, Int.bmod_def]
  omega
/-- the text i has c among its letters from place j on -/
def kHas (i c : Nat) : Prop := ∃ j, j < kLn i ∧ kCh i j = nI c
theorem cl_indexOfChar (G : Gl) (d : Nat) {X : Sh} {M : Mm} {i c : Nat} {Q : Mm → Int32 → Prop} (hi : i < 6) (hc : c ≤ 255) (hq : ∀ r, (r < 0 ↔ ¬ kHas i c) → Q M r) :
    ∀ (n j : Nat), j + n = kLn i → (∀ k, k < j → ¬ kCh i k = nI c) → Wn G m_J1_indexOfChar d 7 [(0, .ref (G.2 (16 + i))), (3, .int (nI (kLn i))), (4, .int (nI c).toInt8.toInt32), (5, .int (nI j))] [] X M Q
  | 0, j, h, hno => by
    have h4 := kLn_le hi
    have hj : j = kLn i := h
    refine wp_iload 3 dJ1_indexOfChar_7 rfl ?_
    refine wp_iload_n 1 dJ1_indexOfChar_9 rfl rfl ?_
    refine wp_icmp_ge (tgt := 31) dJ1_indexOfChar_10 (by decide) (fun _ => ?_) (fun q => absurd (by rw [hj]; exact Int32.le_refl _) q)
    refine wp_iconst (v := -1) dJ1_indexOfChar_31 rfl ?_
    refine wn_iret dJ1_indexOfChar_32 rfl (hq _ ⟨fun _ z => ?_, fun _ => by decide⟩)
    obtain ⟨k, k1, k2⟩ := z
    exact hno k (by omega) k2
  | n + 1, j, h, hno => by
    have h4 := kLn_le hi
    obtain ⟨_, _, b, b1, b2, b3⟩ := kCh_c (j := j) hi (by omega)
    refine wp_iload 3 dJ1_indexOfChar_7 rfl ?_
    refine wp_iload_n 1 dJ1_indexOfChar_9 rfl rfl ?_
    refine wp_icmp_ge (tgt := 31) dJ1_indexOfChar_10 (by decide) (fun q => ?_) (fun _ => ?_)
    · have := (nI_leI (by omega) (by omega)).mp q
      omega
    refine wp_aload_n 0 dJ1_indexOfChar_13 rfl rfl ?_
    refine wp_iload 3 dJ1_indexOfChar_14 rfl ?_
    refine wp_sbald dJ1_indexOfChar_16 hi (by omega) ?_
    refine wp_iload 2 dJ1_indexOfChar_17 rfl ?_
    refine wp_icmp_ne (tgt := 25) dJ1_indexOfChar_19 (by decide) (fun q => ?_) (fun q => ?_)
    · refine wp_iinc (v := nI j + 1) (lo2 := [(5, .int _), (0, .ref _), (3, .int _), (4, .int _)]) dJ1_indexOfChar_25 (q := 3) rfl rfl (by decide) rfl ?_
      refine wp_goto (tgt := 7) dJ1_indexOfChar_28 (by decide) ?_
      rw [nI_1]
      refine Wp.sub [1, 2, 3, 0] rfl (cl_indexOfChar G d hi hc hq n (j + 1) (by omega) (fun k hk => ?_))
      by_cases e : k = j
      · subst e
        intro z
        rw [b3] at z q
        exact q ((byte_ch hc b2).mpr ((nI_inj (by omega) (by omega)).mp z).symm)
      · exact hno k (by omega)
    · refine wp_iload 3 dJ1_indexOfChar_22 rfl ?_
      refine wn_iret dJ1_indexOfChar_24 rfl (hq _ ⟨fun z => absurd z (nI_pos (by omega)), fun z => absurd ⟨j, by omega, ?_⟩ z⟩)
      rw [b3] at q ⊢
      rw [(byte_ch hc b2).mp q]
theorem cp_J1_indexOfChar (G : Gl) (d : Nat) (X : Sh) (M : Mm) (i c : Nat) (hi : i < 6) (hc : c ≤ 255) : Cn G m_J1_indexOfChar d [.ref (G.2 (16 + i)), .int (nI c), .int 0, .int (nI (kLn i))] X M (fun M2 r => M2 = M ∧ (r < 0 ↔ ¬ kHas i c)) := by
  refine Cn.of (by decide) (Nat.le_of_ble_eq_true rfl) ?_
  refine wp_iload_n 1 dJ1_indexOfChar_0 rfl rfl ?_
  refine wp_i2b dJ1_indexOfChar_1 ?_
  refine wp_istore (lo2 := [(4, .int _), (0, .ref _), (1, .int _), (2, .int _), (3, .int _)]) dJ1_indexOfChar_2 (by decide) rfl ?_
  refine wp_iload_n 3 dJ1_indexOfChar_4 rfl rfl ?_
  refine wp_istore (lo2 := [(5, .int _), (4, .int _), (0, .ref _), (1, .int _), (2, .int _), (3, .int _)]) dJ1_indexOfChar_5 (by decide) rfl ?_
  exact Wp.sub [2, 5, 1, 0] rfl (cl_indexOfChar G d hi hc (fun r hr => ⟨rfl, hr⟩) (kLn i) 0 (by omega) (fun k hk => absurd hk (by omega)))
theorem kLn_pos {i : Nat} (hi : i < 6) : 0 < kLn i := by
  match i, hi with
  | 0, _ => decide
  | 1, _ => decide
  | 2, _ => decide
  | 3, _ => decide
  | 4, _ => decide
  | 5, _ => decide
theorem cp_J1_indexOf (G : Gl) (d : Nat) (hd : 2 ≤ d) (X : Sh) (M : Mm) (i c : Nat) (hi : i < 6) (hc : c ≤ 255) : Cn G m_J1_indexOf d [.ref (G.2 (16 + i)), .int (nI c), .int 0, .int (nI (kLn i))] X M (fun M2 r => M2 = M ∧ (r < 0 ↔ ¬ kHas i c)) := by
  obtain ⟨d, rfl⟩ : ∃ d1, d = d1 + 1 := ⟨d - 1, by omega⟩
  have h4 := kLn_le hi
  have h0 := kLn_pos hi
  refine Cn.of (by decide) (Nat.le_of_ble_eq_true rfl) ?_
  refine wp_iload_n 1 dJ1_indexOf_0 rfl rfl ?_
  refine wp_csip dJ1_indexOf_1 cz_RJ1_88 rfl (as := [.int (nI c)]) rfl rfl (Nat.le_of_ble_eq_true rfl) (cp_J1_canEncode G d X M c hc) ?_
  refine wp_if_ne (tgt := 9) dJ1_indexOf_4 (by decide) (fun _ => ?_) (fun q => absurd q (by decide))
  refine wp_iload_n 2 dJ1_indexOf_9 rfl rfl ?_
  refine wp_iconst (v := 0) dJ1_indexOf_10 rfl ?_
  refine wp_mmax dJ1_indexOf_11 jm_92 jm_max.1 jm_max.2.1 jm_max.2.2 (Nat.le_of_ble_eq_true rfl) (Nat.le_refl _) (Nat.le_refl _) ?_
  rw [if_neg (show ¬ (0 : Int32) < 0 by decide)]
  refine wp_istore_n (lo2 := [(2, .int _), (0, .ref _), (1, .int _), (3, .int _)]) dJ1_indexOf_14 rfl (by decide) rfl ?_
  refine wp_iload_n 3 dJ1_indexOf_15 rfl rfl ?_
  refine wp_aload_n 1 dJ1_indexOf_16 rfl rfl ?_
  refine wp_slen dJ1_indexOf_17 hi ?_
  refine wp_mmin dJ1_indexOf_18 jm_38 jm_min.1 jm_min.2.1 jm_min.2.2 (Nat.le_of_ble_eq_true rfl) (Nat.le_refl _) (Nat.le_refl _) ?_
  rw [if_neg (show ¬ nI (kLn i) < nI (kLn i) from fun q => Int32.lt_irrefl q)]
  refine wp_istore_n (lo2 := [(3, .int _), (2, .int _), (0, .ref _), (1, .int _)]) dJ1_indexOf_21 rfl (by decide) rfl ?_
  refine wp_iload_n 1 dJ1_indexOf_22 rfl rfl ?_
  refine wp_iload_n 0 dJ1_indexOf_23 rfl rfl ?_
  refine wp_icmp_lt (tgt := 29) dJ1_indexOf_24 (by decide) (fun _ => ?_) (fun q => absurd ((nI_ltI (a := 0) (by omega) (by omega)).mpr h0) q)
  refine wp_aload_n 2 dJ1_indexOf_29 rfl rfl ?_
  refine wp_iload_n 3 dJ1_indexOf_30 rfl rfl ?_
  refine wp_iload_n 1 dJ1_indexOf_31 rfl rfl ?_
  refine wp_iload_n 0 dJ1_indexOf_32 rfl rfl ?_
  refine wp_csi dJ1_indexOf_33 cz_RJ1_95 rfl (as := [.ref (G.2 (16 + i)), .int (nI c), .int 0, .int (nI (kLn i))]) rfl rfl (Nat.le_of_ble_eq_true rfl) (cp_J1_indexOfChar G d X M i c hi hc) (fun M2 x h => ?_)
  exact wn_iret dJ1_indexOf_36 rfl h
theorem cp_J0_indexOf2 (G : Gl) (d : Nat) (hd : 3 ≤ d) (X : Sh) (M : Mm) (i c : Nat) (hi : i < 6) (hc : c ≤ 255) : Cn G m_J0_indexOf2 d [.ref (G.2 (10 + i)), .int (nI c), .int 0] X M (fun M2 r => M2 = M ∧ (r < 0 ↔ ¬ kHas i c)) := by
  obtain ⟨d, rfl⟩ : ∃ d1, d = d1 + 1 := ⟨d - 1, by omega⟩
  refine Cn.of (by decide) (Nat.le_of_ble_eq_true rfl) ?_
  refine wp_aload_n 0 dJ0_indexOf2_0 rfl rfl ?_
  refine wp_svip dJ0_indexOf2_1 cs_RJ0_492 hi (as := []) rfl rfl (Nat.le_of_ble_eq_true rfl) (cp_J0_isLatin1 G d X M i hi) ?_
  refine wp_if_eq (tgt := 23) dJ0_indexOf2_4 (by decide) (fun q => absurd q (by decide)) (fun _ => ?_)
  refine wp_aload_n 0 dJ0_indexOf2_7 rfl rfl ?_
  refine wp_svalue dJ0_indexOf2_8 fj_9 hi ?_
  refine wp_iload_n 1 dJ0_indexOf2_11 rfl rfl ?_
  refine wp_iload_n 2 dJ0_indexOf2_12 rfl rfl ?_
  refine wp_aload_n 0 dJ0_indexOf2_13 rfl rfl ?_
  refine wp_svip dJ0_indexOf2_14 cs_RJ0_505 hi (as := []) rfl rfl (Nat.le_of_ble_eq_true rfl) (cp_J0_length G d (by omega) X M i hi) ?_
  refine wp_csi dJ0_indexOf2_17 cz_RJ0_637 rfl (as := [.ref (G.2 (16 + i)), .int (nI c), .int 0, .int (nI (kLn i))]) rfl rfl (Nat.le_of_ble_eq_true rfl) (cp_J1_indexOf G d (by omega) X M i c hi hc) (fun M2 x h => ?_)
  refine wp_goto (tgt := 36) dJ0_indexOf2_20 (by decide) ?_
  exact wn_iret dJ0_indexOf2_36 rfl h
theorem cp_J0_indexOf1 (G : Gl) (d : Nat) (hd : 4 ≤ d) (X : Sh) (M : Mm) (i c : Nat) (hi : i < 6) (hc : c ≤ 255) : Cn G m_J0_indexOf1 d [.ref (G.2 (10 + i)), .int (nI c)] X M (fun M2 r => M2 = M ∧ (r < 0 ↔ ¬ kHas i c)) := by
  obtain ⟨d, rfl⟩ : ∃ d1, d = d1 + 1 := ⟨d - 1, by omega⟩
  refine Cn.of (by decide) (Nat.le_of_ble_eq_true rfl) ?_
  refine wp_aload_n 0 dJ0_indexOf1_0 rfl rfl ?_
  refine wp_iload_n 1 dJ0_indexOf1_1 rfl rfl ?_
  refine wp_iconst (v := 0) dJ0_indexOf1_2 rfl ?_
  refine wp_svi dJ0_indexOf1_3 cs_RJ0_633 hi (as := [.int (nI c), .int 0]) rfl rfl (Nat.le_of_ble_eq_true rfl) (cp_J0_indexOf2 G d (by omega) X M i c hi hc) (fun M2 x h => ?_)
  exact wn_iret dJ0_indexOf1_6 rfl h
