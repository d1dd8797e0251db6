abbrev MX0_init : MI := (RX0, cX0_init, 1, none, 4, 78, 5850, true)
abbrev MX0_start : MI := (RX0, cX0_start, 4, none, 5, 0, 0, false)
abbrev MX0_rank : MI := (RX0, cX0_rank, 1, (Option.some FieldType.int), 4, 0, 0, false)
abbrev MX0_add : MI := (RX0, cX0_add, 3, none, 4, 0, 0, false)
abbrev MX0_settle : MI := (RX0, cX0_settle, 3, (Option.some FieldType.boolean), 5, 0, 0, false)
abbrev MX0_reduce : MI := (RX0, cX0_reduce, 5, none, 4, 0, 0, false)
abbrev MX0_lead : MI := (RX0, cX0_lead, 6, none, 4, 0, 0, false)
abbrev MX1_init : MI := (RX1, cX1_init, 2, none, 4, 3, 17, true)
abbrev MX1_rankOf : MI := (RX1, cX1_rankOf, 7, (Option.some FieldType.int), 6, 0, 0, false)
abbrev MX1_entry : MI := (RX1, cX1_entry, 8, (Option.some FieldType.int), 5, 0, 0, false)
abbrev MX1_leastSingular : MI := (RX1, cX1_leastSingular, 5, (Option.some FieldType.int), 7, 0, 0, false)
abbrev MX1_planar : MI := (RX1, cX1_planar, 2, (Option.some FieldType.int), 8, 0, 0, false)
abbrev MX1_derivations : MI := (RX1, cX1_derivations, 3, (Option.some FieldType.int), 7, 0, 0, false)
abbrev MX1_triples : MI := (RX1, cX1_triples, 3, (Option.some FieldType.int), 7, 0, 0, false)
abbrev MX1_demandDerivative : MI := (RX1, cX1_demandDerivative, 9, none, 6, 0, 0, false)
abbrev MX2_init : MI := (RX2, cX2_init, 2, none, 5, 14, 288, true)
abbrev MX3_init : MI := (RX3, cX3_init, 2, none, 4, 0, 0, true)
abbrev MX4_init : MI := (RX4, cX4_init, 1, none, 5, 13, 1023, true)
abbrev MX4_hasRoom : MI := (RX4, cX4_hasRoom, 1, (Option.some FieldType.boolean), 4, 0, 0, false)
abbrev MX4_takeNumber : MI := (RX4, cX4_takeNumber, 3, none, 4, 0, 0, false)
abbrev MX4_length : MI := (RX4, cX4_length, 1, (Option.some FieldType.int), 4, 0, 0, false)
abbrev MX4_cutAt : MI := (RX4, cX4_cutAt, 2, (Option.some FieldType.boolean), 4, 0, 0, false)
abbrev MX4_forget : MI := (RX4, cX4_forget, 1, none, 4, 0, 0, false)
abbrev MX4_told : MI := (RX4, cX4_told, 1, (Option.some (FieldType.object "NeedNotJoin$World")), 4, 0, 0, false)
abbrev MX4_read : MI := (RX4, cX4_read, 2, (Option.some FieldType.boolean), 10, 0, 0, false)
abbrev MX4_fail : MI := (RX4, cX4_fail, 2, (Option.some FieldType.boolean), 4, 0, 0, false)
abbrev MX4_statement : MI := (RX4, cX4_statement, 7, none, 9, 0, 0, false)
abbrev MX4_expect : MI := (RX4, cX4_expect, 2, (Option.some FieldType.boolean), 5, 0, 0, false)
abbrev MX4_numberBelow : MI := (RX4, cX4_numberBelow, 2, (Option.some FieldType.boolean), 7, 0, 0, false)
abbrev MX4_order : MI := (RX4, cX4_order, 2, (Option.some FieldType.boolean), 8, 0, 0, false)
abbrev MX4_polynomials : MI := (RX4, cX4_polynomials, 2, (Option.some FieldType.boolean), 8, 0, 0, false)
abbrev MX4_fillPolynomials : MI := (RX4, cX4_fillPolynomials, 8, none, 7, 0, 0, false)
abbrev MX4_twist : MI := (RX4, cX4_twist, 3, (Option.some FieldType.boolean), 8, 0, 0, false)
abbrev MX4_fillTwist : MI := (RX4, cX4_fillTwist, 10, none, 7, 0, 0, false)
abbrev MX4_raise : MI := (RX4, cX4_raise, 7, (Option.some FieldType.int), 5, 0, 0, false)
abbrev MX4_row : MI := (RX4, cX4_row, 4, (Option.some FieldType.boolean), 8, 0, 0, false)
abbrev MX4_turning : MI := (RX4, cX4_turning, 1, (Option.some FieldType.boolean), 8, 0, 0, false)
abbrev MX4_step : MI := (RX4, cX4_step, 1, none, 6, 0, 0, false)
abbrev MX4_stepNumber : MI := (RX4, cX4_stepNumber, 1, none, 5, 0, 0, false)
abbrev MX4_isWord : MI := (RX4, cX4_isWord, 3, (Option.some FieldType.boolean), 8, 0, 0, false)
abbrev MX4_isLetter : MI := (RX4, cX4_isLetter, 1, (Option.some FieldType.boolean), 4, 0, 0, false)
abbrev MX4_isDigit : MI := (RX4, cX4_isDigit, 1, (Option.some FieldType.boolean), 4, 0, 0, false)
abbrev MX5_init : MI := (RX5, cX5_init, 1, none, 4, 13, 1663, true)
abbrev MX6_init : MI := (RX6, cX6_init, 2, none, 5, 82, 3597, true)
abbrev MX6_world : MI := (RX6, cX6_world, 2, (Option.some (FieldType.object "NeedNotJoin$World")), 4, 0, 0, false)
abbrev MX6_tell : MI := (RX6, cX6_tell, 3, none, 5, 0, 0, false)
abbrev MX6_dropOldest : MI := (RX6, cX6_dropOldest, 3, none, 4, 0, 0, false)
abbrev MX6_canGoBack : MI := (RX6, cX6_canGoBack, 1, (Option.some FieldType.int), 4, 0, 0, false)
abbrev MX6_canGoForth : MI := (RX6, cX6_canGoForth, 1, (Option.some FieldType.int), 4, 0, 0, false)
abbrev MX6_imageAt : MI := (RX6, cX6_imageAt, 2, (Option.some FieldType.int), 4, 0, 0, false)
abbrev MX7_init : MI := (RX7, cX7_init, 3, none, 4, 5, 621, true)
abbrev MX7_divides : MI := (RX7, cX7_divides, 2, (Option.some FieldType.boolean), 9, 0, 0, false)
abbrev MX7_failing : MI := (RX7, cX7_failing, 3, (Option.some FieldType.int), 8, 0, 0, false)
abbrev MX7_leastToNought : MI := (RX7, cX7_leastToNought, 4, (Option.some FieldType.int), 5, 0, 0, false)
abbrev MX7_unit : MI := (RX7, cX7_unit, 3, (Option.some FieldType.int), 7, 0, 0, false)
abbrev MX7_isUnit : MI := (RX7, cX7_isUnit, 5, (Option.some FieldType.boolean), 6, 0, 0, false)
abbrev MX7_difference : MI := (RX7, cX7_difference, 10, (Option.some FieldType.int), 6, 0, 0, false)
abbrev MX7_firstUnjoined : MI := (RX7, cX7_firstUnjoined, 6, (Option.some FieldType.int), 7, 0, 0, false)
abbrev MX7_findDifferences : MI := (RX7, cX7_findDifferences, 6, none, 7, 0, 0, false)
abbrev MX7_nucleus : MI := (RX7, cX7_nucleus, 3, (Option.some FieldType.int), 8, 0, 0, false)
abbrev MX7_centre : MI := (RX7, cX7_centre, 2, (Option.some FieldType.int), 8, 0, 0, false)
abbrev MX7_demandJoining : MI := (RX7, cX7_demandJoining, 9, none, 7, 0, 0, false)
abbrev MX7_demandNought : MI := (RX7, cX7_demandNought, 9, none, 6, 0, 0, false)
abbrev MX7_demandCommuting : MI := (RX7, cX7_demandCommuting, 6, none, 6, 0, 0, false)
abbrev MX7_idempotents : MI := (RX7, cX7_idempotents, 4, (Option.some FieldType.int), 5, 0, 0, false)
abbrev MX7_squares : MI := (RX7, cX7_squares, 4, (Option.some FieldType.int), 5, 0, 0, false)
abbrev MX7_forgetSeen : MI := (RX7, cX7_forgetSeen, 2, none, 4, 0, 0, false)
abbrev MX7_isFirstSeen : MI := (RX7, cX7_isFirstSeen, 2, (Option.some FieldType.boolean), 4, 0, 0, false)
abbrev MX8_isPrime : MI := (RX8, cX8_isPrime, 1, (Option.some FieldType.boolean), 4, 0, 0, false)
abbrev MX8_power : MI := (RX8, cX8_power, 4, (Option.some FieldType.int), 4, 0, 0, false)
abbrev MX8_plus : MI := (RX8, cX8_plus, 8, (Option.some FieldType.int), 4, 0, 0, false)
abbrev MX8_manifold : MI := (RX8, cX8_manifold, 7, (Option.some FieldType.int), 4, 0, 0, false)
abbrev MX8_less : MI := (RX8, cX8_less, 3, (Option.some FieldType.int), 5, 0, 0, false)
abbrev MX8_unpack : MI := (RX8, cX8_unpack, 5, none, 4, 0, 0, false)
abbrev MX9_init : MI := (RX9, cX9_init, 1, none, 4, 2, 130, true)
abbrev MX9_canBe : MI := (RX9, cX9_canBe, 2, (Option.some FieldType.boolean), 5, 0, 0, false)
abbrev MX9_clear : MI := (RX9, cX9_clear, 4, none, 6, 0, 0, false)
abbrev MX9_copy : MI := (RX9, cX9_copy, 2, none, 4, 0, 0, false)
abbrev MX9_prime : MI := (RX9, cX9_prime, 1, (Option.some FieldType.int), 4, 0, 0, false)
abbrev MX9_size : MI := (RX9, cX9_size, 1, (Option.some FieldType.int), 4, 0, 0, false)
abbrev MX9_order : MI := (RX9, cX9_order, 1, (Option.some FieldType.int), 4, 0, 0, false)
abbrev MX9_knownFailing : MI := (RX9, cX9_knownFailing, 1, (Option.some FieldType.int), 4, 0, 0, false)
abbrev MX9_learnFailing : MI := (RX9, cX9_learnFailing, 2, none, 4, 0, 0, false)
abbrev MX9_hasElement : MI := (RX9, cX9_hasElement, 2, (Option.some FieldType.boolean), 4, 0, 0, false)
abbrev MX9_hasCell : MI := (RX9, cX9_hasCell, 4, (Option.some FieldType.boolean), 4, 0, 0, false)
abbrev MX9_cell : MI := (RX9, cX9_cell, 4, (Option.some FieldType.int), 4, 0, 0, false)
abbrev MX9_put : MI := (RX9, cX9_put, 5, none, 5, 0, 0, false)
abbrev MX9_putRow : MI := (RX9, cX9_putRow, 6, none, 6, 0, 0, false)
abbrev MX9_base : MI := (RX9, cX9_base, 2, (Option.some FieldType.int), 5, 0, 0, false)
abbrev MX9_times : MI := (RX9, cX9_times, 10, (Option.some FieldType.int), 4, 0, 0, false)
abbrev MX9_commutes : MI := (RX9, cX9_commutes, 4, (Option.some FieldType.boolean), 5, 0, 0, false)
abbrev MX9_turnFrom : MI := (RX9, cX9_turnFrom, 6, none, 7, 0, 0, false)
abbrev MX9_turnedCell : MI := (RX9, cX9_turnedCell, 5, (Option.some FieldType.int), 5, 0, 0, false)
abbrev MX10_init : MI := (RX10, cX10_init, 1, none, 6, 302, 16861, true)
abbrev MX10_feed : MI := (RX10, cX10_feed, 6, (Option.some FieldType.int), 5, 0, 0, false)
abbrev MX10_end : MI := (RX10, cX10_end, 2, (Option.some FieldType.boolean), 5, 0, 0, false)
abbrev MX10_text : MI := (RX10, cX10_text, 3, (Option.some FieldType.int), 11, 0, 0, false)
abbrev MX10_cube : MI := (RX10, cX10_cube, 6, (Option.some FieldType.int), 5, 0, 0, false)
abbrev MX10_of : MI := (RX10, cX10_of, 4, (Option.some FieldType.int), 10, 0, 0, false)
abbrev MX10_product : MI := (RX10, cX10_product, 5, (Option.some FieldType.int), 5, 0, 0, false)
abbrev MX10_look : MI := (RX10, cX10_look, 2, (Option.some FieldType.int), 5, 0, 0, false)
abbrev MX11_init : MI := (RX11, cX11_init, 1, none, 4, 31, 155, true)
abbrev MX11_copy : MI := (RX11, cX11_copy, 5, (Option.some (FieldType.object "NeedNotJoinLaw$World")), 5, 32, 160, false)
abbrev MX11_sizes : MI := (RX11, cX11_sizes, 4, none, 4, 0, 0, false)
abbrev MX11_digit : MI := (RX11, cX11_digit, 4, (Option.some FieldType.int), 4, 0, 0, false)
abbrev MX11_plus : MI := (RX11, cX11_plus, 6, (Option.some FieldType.int), 5, 0, 0, false)
abbrev MX11_minus : MI := (RX11, cX11_minus, 5, (Option.some FieldType.int), 6, 0, 0, false)
abbrev MX11_lays : MI := (RX11, cX11_lays, 6, none, 6, 30, 800, false)
abbrev MX11_fail : MI := (RX11, cX11_fail, 3, (Option.some FieldType.int), 4, 0, 0, false)
abbrev MX11_unit : MI := (RX11, cX11_unit, 4, (Option.some FieldType.int), 4, 0, 0, false)
abbrev MX11_turned : MI := (RX11, cX11_turned, 6, (Option.some (FieldType.object "NeedNotJoinLaw$World")), 6, 32, 160, false)
abbrev MX11_isSame : MI := (RX11, cX11_isSame, 6, (Option.some FieldType.boolean), 11, 0, 0, false)
abbrev MJ5_init_d00df : MI := (RJ5, cJ5_init_d00df, 2, none, 4, 1, 16, true)
abbrev MJ5_length_8abf5 : MI := (RJ5, cJ5_length_8abf5, 1, (Option.some FieldType.int), 4, 0, 0, false)
abbrev MJ5_ensureCapacityInternal_d00df : MI := (RJ5, cJ5_ensureCapacityInternal_d00df, 3, none, 7, 1, 400, false)
abbrev MJ5_newCapacity_0f7a4 : MI := (RJ5, cJ5_newCapacity_0f7a4, 6, (Option.some FieldType.int), 6, 0, 0, false)
abbrev MJ5_inflate_da8c8 : MI := (RJ5, cJ5_inflate_da8c8, 2, none, 4, 0, 0, false)
abbrev MJ5_append_cf1ce : MI := (RJ5, cJ5_append_cf1ce, 3, (Option.some (FieldType.object "java/lang/AbstractStringBuilder")), 8, 1, 400, false)
abbrev MJ5_appendNull_278bc : MI := (RJ5, cJ5_appendNull_278bc, 3, (Option.some (FieldType.object "java/lang/AbstractStringBuilder")), 4, 0, 0, false)
abbrev MJ5_append_c97b9 : MI := (RJ5, cJ5_append_c97b9, 4, (Option.some (FieldType.object "java/lang/AbstractStringBuilder")), 8, 1, 400, false)
abbrev MJ5_getValue_6d5f1 : MI := (RJ5, cJ5_getValue_6d5f1, 1, (Option.some (FieldType.array FieldType.byte)), 4, 0, 0, false)
abbrev MJ5_isLatin1_aae02 : MI := (RJ5, cJ5_isLatin1_aae02, 1, (Option.some FieldType.boolean), 4, 0, 0, false)
abbrev MJ5_inflateIfNeededFor_a7421 : MI := (RJ5, cJ5_inflateIfNeededFor_a7421, 2, none, 5, 0, 0, false)
abbrev MJ5_putStringAt_47b60 : MI := (RJ5, cJ5_putStringAt_47b60, 3, none, 6, 0, 0, false)
abbrev MJ6_getChars_ba4f3 : MI := (RJ6, cJ6_getChars_ba4f3, 7, (Option.some FieldType.int), 4, 0, 0, false)
abbrev MJ6_stringSize_0f7a4 : MI := (RJ6, cJ6_stringSize_0f7a4, 4, (Option.some FieldType.int), 4, 0, 0, false)
abbrev MJ9_max_7cf53 : MI := (RJ9, cJ9_max_7cf53, 2, (Option.some FieldType.int), 4, 0, 0, false)
abbrev MJ9_min_7cf53 : MI := (RJ9, cJ9_min_7cf53, 2, (Option.some FieldType.int), 4, 0, 0, false)
abbrev MJ0_init_81219 : MI := (RJ0, cJ0_init_81219, 2, none, 8, 1, 400, true)
abbrev MJ0_length_8abf5 : MI := (RJ0, cJ0_length_8abf5, 1, (Option.some FieldType.int), 5, 0, 0, false)
abbrev MJ0_charAt_5068e : MI := (RJ0, cJ0_charAt_5068e, 2, (Option.some FieldType.char), 7, 0, 0, false)
abbrev MJ0_getBytes_840e7 : MI := (RJ0, cJ0_getBytes_840e7, 4, none, 5, 0, 0, false)
abbrev MJ0_init_db425 : MI := (RJ0, cJ0_init_db425, 5, none, 7, 1, 400, true)
abbrev MJ0_coder_7d493 : MI := (RJ0, cJ0_coder_7d493, 1, (Option.some FieldType.byte), 4, 0, 0, false)
abbrev MJ0_isLatin1_aae02 : MI := (RJ0, cJ0_isLatin1_aae02, 1, (Option.some FieldType.boolean), 4, 0, 0, false)
abbrev MJ0_checkIndex_df160 : MI := (RJ0, cJ0_checkIndex_df160, 2, none, 5, 0, 0, false)
abbrev MJ0_checkBoundsOffCount_cabcc : MI := (RJ0, cJ0_checkBoundsOffCount_cabcc, 3, (Option.some FieldType.int), 4, 0, 0, false)
abbrev MJ0_checkBoundsBeginEnd_23922 : MI := (RJ0, cJ0_checkBoundsBeginEnd_23922, 3, none, 4, 0, 0, false)
abbrev MJ4_init_da8c8 : MI := (RJ4, cJ4_init_da8c8, 1, none, 5, 1, 16, true)
abbrev MJ4_append_15ec4 : MI := (RJ4, cJ4_append_15ec4, 2, (Option.some (FieldType.object "java/lang/StringBuilder")), 9, 1, 400, false)
abbrev MJ4_append_bf812 : MI := (RJ4, cJ4_append_bf812, 2, (Option.some (FieldType.object "java/lang/StringBuilder")), 9, 1, 400, false)
abbrev MJ4_toString_0e30d : MI := (RJ4, cJ4_toString_0e30d, 1, (Option.some (FieldType.object "java/lang/String")), 9, 2, 404, false)
abbrev MJ4_length_8abf5 : MI := (RJ4, cJ4_length_8abf5, 1, (Option.some FieldType.int), 5, 0, 0, false)
abbrev MJ1_charAt_3b067 : MI := (RJ1, cJ1_charAt_3b067, 2, (Option.some FieldType.char), 6, 0, 0, false)
abbrev MJ1_inflate_0e8fd : MI := (RJ1, cJ1_inflate_0e8fd, 5, none, 4, 0, 0, false)
abbrev MJ2_newBytesFor_77867 : MI := (RJ2, cJ2_newBytesFor_77867, 1, (Option.some (FieldType.array FieldType.byte)), 4, 0, 0, false)
abbrev MJ2_newBytesLength_0f7a4 : MI := (RJ2, cJ2_newBytesLength_0f7a4, 1, (Option.some FieldType.int), 4, 0, 0, false)
abbrev MJ2_putChar_b72d1 : MI := (RJ2, cJ2_putChar_b72d1, 3, none, 4, 0, 0, false)
abbrev MJ2_getChar_3b067 : MI := (RJ2, cJ2_getChar_3b067, 2, (Option.some FieldType.char), 4, 0, 0, false)
abbrev MJ2_length_9d52b : MI := (RJ2, cJ2_length_9d52b, 1, (Option.some FieldType.int), 4, 0, 0, false)
abbrev MJ2_coderFromArrayLen_85cad : MI := (RJ2, cJ2_coderFromArrayLen_85cad, 2, (Option.some FieldType.byte), 4, 0, 0, false)
abbrev MJ2_compress_39247 : MI := (RJ2, cJ2_compress_39247, 6, (Option.some (FieldType.array FieldType.byte)), 4, 0, 0, false)
abbrev MJ2_compress_5af95 : MI := (RJ2, cJ2_compress_5af95, 7, (Option.some FieldType.int), 4, 0, 0, false)
abbrev MJ2_getChars_46870 : MI := (RJ2, cJ2_getChars_46870, 5, (Option.some FieldType.int), 4, 0, 0, false)
abbrev MJ2_putCharsAt_cd4e5 : MI := (RJ2, cJ2_putCharsAt_cd4e5, 7, (Option.some FieldType.int), 4, 0, 0, false)
abbrev MJ2_charAt_3b067 : MI := (RJ2, cJ2_charAt_3b067, 2, (Option.some FieldType.char), 4, 0, 0, false)
abbrev MJ2_inflate_0e8fd : MI := (RJ2, cJ2_inflate_0e8fd, 6, none, 4, 0, 0, false)
abbrev MJ2_getChars_ba4f3 : MI := (RJ2, cJ2_getChars_ba4f3, 7, (Option.some FieldType.int), 4, 0, 0, false)
abbrev MJ2_checkIndex_2214a : MI := (RJ2, cJ2_checkIndex_2214a, 2, none, 4, 0, 0, false)
abbrev MJ2_checkBoundsBeginEnd_d044e : MI := (RJ2, cJ2_checkBoundsBeginEnd_d044e, 3, none, 4, 0, 0, false)
abbrev MJ2_checkBoundsOffCount_d044e : MI := (RJ2, cJ2_checkBoundsOffCount_d044e, 3, none, 4, 0, 0, false)
abbrev MJ7_copyOf_9075b : MI := (RJ7, cJ7_copyOf_9075b, 3, (Option.some (FieldType.array FieldType.byte)), 5, 1, 400, false)
abbrev MJ7_checkLength_df160 : MI := (RJ7, cJ7_checkLength_df160, 2, none, 4, 0, 0, false)
abbrev MJ7_copyOfRange_39247 : MI := (RJ7, cJ7_copyOfRange_39247, 3, (Option.some (FieldType.array FieldType.byte)), 6, 1, 400, false)
abbrev MJ7_copyOfRangeByte_39247 : MI := (RJ7, cJ7_copyOfRangeByte_39247, 5, (Option.some (FieldType.array FieldType.byte)), 5, 1, 400, false)
abbrev MJ8_newLength_cabcc : MI := (RJ8, cJ8_newLength_cabcc, 4, (Option.some FieldType.int), 5, 0, 0, false)
abbrev MJ8_hugeLength_7cf53 : MI := (RJ8, cJ8_hugeLength_7cf53, 3, (Option.some FieldType.int), 4, 0, 0, false)
abbrev MJ3_checkIndex_8e157 : MI := (RJ3, cJ3_checkIndex_8e157, 3, (Option.some FieldType.int), 4, 0, 0, false)
abbrev MJ3_checkFromToIndex_8c36e : MI := (RJ3, cJ3_checkFromToIndex_8c36e, 4, (Option.some FieldType.int), 4, 0, 0, false)
abbrev MJ3_checkFromIndexSize_8c36e : MI := (RJ3, cJ3_checkFromIndexSize_8c36e, 4, (Option.some FieldType.int), 4, 0, 0, false)
abbrev ML_cell : MI := (RL, cL_cell, 2, (Option.some FieldType.int), 4, 0, 0, false)
abbrev ML_between : MI := (RL, cL_between, 3, (Option.some FieldType.int), 4, 0, 0, false)
abbrev ML_say : MI := (RL, cL_say, 5, none, 8, 20, 100, false)
abbrev ML_field : MI := (RL, cL_field, 9, (Option.some (FieldType.object "NeedNotJoinLaw$World")), 7, 80, 1200, false)
abbrev ML_SIZES : MI := (RL, cL_SIZES, 0, (Option.some (FieldType.array (FieldType.array FieldType.int))), 4, 10, 27, false)
abbrev ML_goodField : MI := (RL, cL_goodField, 2, (Option.some (FieldType.array FieldType.int)), 4, 1, 4, false)
abbrev ML_world : MI := (RL, cL_world, 25, (Option.some (FieldType.object "NeedNotJoinLaw$World")), 12, 3000, 300000, false)
abbrev ML_power : MI := (RL, cL_power, 4, (Option.some FieldType.int), 4, 0, 0, false)
abbrev ML_raised : MI := (RL, cL_raised, 5, (Option.some FieldType.int), 4, 0, 0, false)
theorem nmJ0_2 : ∀ a, a < 2 → ∀ b, b < 2 → a ≠ b → (TJ0 a).2.1 ≠ (TJ0 b).2.1 := fun a ha b hb => nmJ0 a (by omega) b (by omega)
theorem tyJ0_ok2 : ∀ k, k < 2 → parseFieldDescriptor (TJ0 k).2.2.1 = some (tyJ0 k) := fun k hk => tyJ0_ok k (by omega)
theorem uX0 : ∀ w ∈ u_ws RX0 TX0 6, w ∈ lw_good := by
  intro w hw
  obtain ⟨k, hk, rfl⟩ := List.mem_map.mp hw
  have hk := List.mem_range.mp hk
  revert k
  decide +kernel
theorem uX1 : ∀ w ∈ u_ws RX1 TX1 4, w ∈ lw_good := by
  intro w hw
  obtain ⟨k, hk, rfl⟩ := List.mem_map.mp hw
  have hk := List.mem_range.mp hk
  revert k
  decide +kernel
theorem uX2 : ∀ w ∈ u_ws RX2 TX2 5, w ∈ lw_good := by
  intro w hw
  obtain ⟨k, hk, rfl⟩ := List.mem_map.mp hw
  have hk := List.mem_range.mp hk
  revert k
  decide +kernel
theorem uX3 : ∀ w ∈ u_ws RX3 TX3 1, w ∈ lw_good := by
  intro w hw
  obtain ⟨k, hk, rfl⟩ := List.mem_map.mp hw
  have hk := List.mem_range.mp hk
  revert k
  decide +kernel
theorem uX4 : ∀ w ∈ u_ws RX4 TX4 16, w ∈ lw_good := by
  intro w hw
  obtain ⟨k, hk, rfl⟩ := List.mem_map.mp hw
  have hk := List.mem_range.mp hk
  revert k
  decide +kernel
theorem uX5 : ∀ w ∈ u_ws RX5 TX5 18, w ∈ lw_good := by
  intro w hw
  obtain ⟨k, hk, rfl⟩ := List.mem_map.mp hw
  have hk := List.mem_range.mp hk
  revert k
  decide +kernel
theorem uX6 : ∀ w ∈ u_ws RX6 TX6 6, w ∈ lw_good := by
  intro w hw
  obtain ⟨k, hk, rfl⟩ := List.mem_map.mp hw
  have hk := List.mem_range.mp hk
  revert k
  decide +kernel
theorem uX7 : ∀ w ∈ u_ws RX7 TX7 7, w ∈ lw_good := by
  intro w hw
  obtain ⟨k, hk, rfl⟩ := List.mem_map.mp hw
  have hk := List.mem_range.mp hk
  revert k
  decide +kernel
theorem uX9 : ∀ w ∈ u_ws RX9 TX9 6, w ∈ lw_good := by
  intro w hw
  obtain ⟨k, hk, rfl⟩ := List.mem_map.mp hw
  have hk := List.mem_range.mp hk
  revert k
  decide +kernel
theorem uX10 : ∀ w ∈ u_ws RX10 TX10 11, w ∈ lw_good := by
  intro w hw
  obtain ⟨k, hk, rfl⟩ := List.mem_map.mp hw
  have hk := List.mem_range.mp hk
  revert k
  decide +kernel
theorem uX11 : ∀ w ∈ u_ws RX11 TX11 5, w ∈ lw_good := by
  intro w hw
  obtain ⟨k, hk, rfl⟩ := List.mem_map.mp hw
  have hk := List.mem_range.mp hk
  revert k
  decide +kernel
theorem uJ0 : ∀ w ∈ u_ws RJ0 TJ0 2, w ∈ lw_good := by
  intro w hw
  obtain ⟨k, hk, rfl⟩ := List.mem_map.mp hw
  have hk := List.mem_range.mp hk
  revert k
  decide +kernel
theorem uJ4 : ∀ w ∈ u_ws RJ4 TJ4 4, w ∈ lw_good := by
  intro w hw
  obtain ⟨k, hk, rfl⟩ := List.mem_map.mp hw
  have hk := List.mem_range.mp hk
  revert k
  decide +kernel
theorem fl_X9_9 : FL RX9 9 8 0 := ⟨RX9, TX9, 6, rfl, by decide, uX9, q_f_X9_9⟩
theorem pl_X9_9 : PL RX9 9 8 0 (.int) false := ⟨RX9, TX9, 6, tyX9, rfl, by decide, uX9, q_f_X9_9, tyX9_ok, nmX9, rfl, rfl, fun _ => rfl⟩
theorem fl_X9_15 : FL RX9 15 8 1 := ⟨RX9, TX9, 6, rfl, by decide, uX9, q_f_X9_15⟩
theorem pl_X9_15 : PL RX9 15 8 1 (.int) false := ⟨RX9, TX9, 6, tyX9, rfl, by decide, uX9, q_f_X9_15, tyX9_ok, nmX9, rfl, rfl, fun _ => rfl⟩
theorem fl_X9_18 : FL RX9 18 8 2 := ⟨RX9, TX9, 6, rfl, by decide, uX9, q_f_X9_18⟩
theorem pl_X9_18 : PL RX9 18 8 2 (.int) false := ⟨RX9, TX9, 6, tyX9, rfl, by decide, uX9, q_f_X9_18, tyX9_ok, nmX9, rfl, rfl, fun _ => rfl⟩
theorem fl_X9_21 : FL RX9 21 8 3 := ⟨RX9, TX9, 6, rfl, by decide, uX9, q_f_X9_21⟩
theorem pl_X9_21 : PL RX9 21 8 3 (.int) false := ⟨RX9, TX9, 6, tyX9, rfl, by decide, uX9, q_f_X9_21, tyX9_ok, nmX9, rfl, rfl, fun _ => rfl⟩
theorem fl_X9_24 : FL RX9 24 8 4 := ⟨RX9, TX9, 6, rfl, by decide, uX9, q_f_X9_24⟩
theorem pl_X9_24 : PL RX9 24 8 4 (.array .int) true := ⟨RX9, TX9, 6, tyX9, rfl, by decide, uX9, q_f_X9_24, tyX9_ok, nmX9, rfl, rfl, fun _ => rfl⟩
theorem fl_X9_28 : FL RX9 28 8 5 := ⟨RX9, TX9, 6, rfl, by decide, uX9, q_f_X9_28⟩
theorem pl_X9_28 : PL RX9 28 8 5 (.array .int) true := ⟨RX9, TX9, 6, tyX9, rfl, by decide, uX9, q_f_X9_28, tyX9_ok, nmX9, rfl, rfl, fun _ => rfl⟩
theorem fl_X6_11 : FL RX6 11 6 0 := ⟨RX6, TX6, 6, rfl, by decide, uX6, q_f_X6_11⟩
theorem pl_X6_11 : PL RX6 11 6 0 (.array (.object "NeedNotJoin$World")) true := ⟨RX6, TX6, 6, tyX6, rfl, by decide, uX6, q_f_X6_11, tyX6_ok, nmX6, rfl, rfl, fun _ => rfl⟩
theorem fl_X6_17 : FL RX6 17 6 1 := ⟨RX6, TX6, 6, rfl, by decide, uX6, q_f_X6_17⟩
theorem pl_X6_17 : PL RX6 17 6 1 (.array (.object "NeedNotJoin$World")) true := ⟨RX6, TX6, 6, tyX6, rfl, by decide, uX6, q_f_X6_17, tyX6_ok, nmX6, rfl, rfl, fun _ => rfl⟩
theorem fl_X6_20 : FL RX6 20 6 2 := ⟨RX6, TX6, 6, rfl, by decide, uX6, q_f_X6_20⟩
theorem pl_X6_20 : PL RX6 20 6 2 (.array .int) true := ⟨RX6, TX6, 6, tyX6, rfl, by decide, uX6, q_f_X6_20, tyX6_ok, nmX6, rfl, rfl, fun _ => rfl⟩
theorem fl_X6_24 : FL RX6 24 6 3 := ⟨RX6, TX6, 6, rfl, by decide, uX6, q_f_X6_24⟩
theorem pl_X6_24 : PL RX6 24 6 3 (.array .int) true := ⟨RX6, TX6, 6, tyX6, rfl, by decide, uX6, q_f_X6_24, tyX6_ok, nmX6, rfl, rfl, fun _ => rfl⟩
theorem fl_X6_27 : FL RX6 27 6 4 := ⟨RX6, TX6, 6, rfl, by decide, uX6, q_f_X6_27⟩
theorem pl_X6_27 : PL RX6 27 6 4 (.int) false := ⟨RX6, TX6, 6, tyX6, rfl, by decide, uX6, q_f_X6_27, tyX6_ok, nmX6, rfl, rfl, fun _ => rfl⟩
theorem fl_X6_31 : FL RX6 31 6 5 := ⟨RX6, TX6, 6, rfl, by decide, uX6, q_f_X6_31⟩
theorem pl_X6_31 : PL RX6 31 6 5 (.int) false := ⟨RX6, TX6, 6, tyX6, rfl, by decide, uX6, q_f_X6_31, tyX6_ok, nmX6, rfl, rfl, fun _ => rfl⟩
theorem fl_X4_11 : FL RX4 11 4 0 := ⟨RX4, TX4, 16, rfl, by decide, uX4, q_f_X4_11⟩
theorem pl_X4_11 : PL RX4 11 4 0 (.array .int) true := ⟨RX4, TX4, 16, tyX4, rfl, by decide, uX4, q_f_X4_11, tyX4_ok, nmX4, rfl, rfl, fun _ => rfl⟩
theorem fl_X4_15 : FL RX4 15 4 1 := ⟨RX4, TX4, 16, rfl, by decide, uX4, q_f_X4_15⟩
theorem pl_X4_15 : PL RX4 15 4 1 (.int) false := ⟨RX4, TX4, 16, tyX4, rfl, by decide, uX4, q_f_X4_15, tyX4_ok, nmX4, rfl, rfl, fun _ => rfl⟩
theorem fl_X4_19 : FL RX4 19 4 2 := ⟨RX4, TX4, 16, rfl, by decide, uX4, q_f_X4_19⟩
theorem pl_X4_19 : PL RX4 19 4 2 (.int) false := ⟨RX4, TX4, 16, tyX4, rfl, by decide, uX4, q_f_X4_19, tyX4_ok, nmX4, rfl, rfl, fun _ => rfl⟩
theorem fl_X4_22 : FL RX4 22 4 3 := ⟨RX4, TX4, 16, rfl, by decide, uX4, q_f_X4_22⟩
theorem pl_X4_22 : PL RX4 22 4 3 (.int) false := ⟨RX4, TX4, 16, tyX4, rfl, by decide, uX4, q_f_X4_22, tyX4_ok, nmX4, rfl, rfl, fun _ => rfl⟩
theorem fl_X4_25 : FL RX4 25 4 4 := ⟨RX4, TX4, 16, rfl, by decide, uX4, q_f_X4_25⟩
theorem pl_X4_25 : PL RX4 25 4 4 (.int) false := ⟨RX4, TX4, 16, tyX4, rfl, by decide, uX4, q_f_X4_25, tyX4_ok, nmX4, rfl, rfl, fun _ => rfl⟩
theorem fl_X4_28 : FL RX4 28 4 5 := ⟨RX4, TX4, 16, rfl, by decide, uX4, q_f_X4_28⟩
theorem pl_X4_28 : PL RX4 28 4 5 (.int) false := ⟨RX4, TX4, 16, tyX4, rfl, by decide, uX4, q_f_X4_28, tyX4_ok, nmX4, rfl, rfl, fun _ => rfl⟩
theorem fl_X4_31 : FL RX4 31 4 6 := ⟨RX4, TX4, 16, rfl, by decide, uX4, q_f_X4_31⟩
theorem pl_X4_31 : PL RX4 31 4 6 (.int) false := ⟨RX4, TX4, 16, tyX4, rfl, by decide, uX4, q_f_X4_31, tyX4_ok, nmX4, rfl, rfl, fun _ => rfl⟩
theorem fl_X4_34 : FL RX4 34 4 7 := ⟨RX4, TX4, 16, rfl, by decide, uX4, q_f_X4_34⟩
theorem pl_X4_34 : PL RX4 34 4 7 (.int) false := ⟨RX4, TX4, 16, tyX4, rfl, by decide, uX4, q_f_X4_34, tyX4_ok, nmX4, rfl, rfl, fun _ => rfl⟩
theorem fl_X4_37 : FL RX4 37 4 8 := ⟨RX4, TX4, 16, rfl, by decide, uX4, q_f_X4_37⟩
theorem pl_X4_37 : PL RX4 37 4 8 (.int) false := ⟨RX4, TX4, 16, tyX4, rfl, by decide, uX4, q_f_X4_37, tyX4_ok, nmX4, rfl, rfl, fun _ => rfl⟩
theorem fl_X4_40 : FL RX4 40 4 9 := ⟨RX4, TX4, 16, rfl, by decide, uX4, q_f_X4_40⟩
theorem pl_X4_40 : PL RX4 40 4 9 (.boolean) false := ⟨RX4, TX4, 16, tyX4, rfl, by decide, uX4, q_f_X4_40, tyX4_ok, nmX4, rfl, rfl, fun _ => rfl⟩
theorem fl_X4_47 : FL RX4 47 4 10 := ⟨RX4, TX4, 16, rfl, by decide, uX4, q_f_X4_47⟩
theorem pl_X4_47 : PL RX4 47 4 10 (.object "NeedNotJoin$World") true := ⟨RX4, TX4, 16, tyX4, rfl, by decide, uX4, q_f_X4_47, tyX4_ok, nmX4, rfl, rfl, fun _ => rfl⟩
theorem fl_X4_51 : FL RX4 51 4 11 := ⟨RX4, TX4, 16, rfl, by decide, uX4, q_f_X4_51⟩
theorem pl_X4_51 : PL RX4 51 4 11 (.object "NeedNotJoin$World") true := ⟨RX4, TX4, 16, tyX4, rfl, by decide, uX4, q_f_X4_51, tyX4_ok, nmX4, rfl, rfl, fun _ => rfl⟩
theorem fl_X4_54 : FL RX4 54 4 12 := ⟨RX4, TX4, 16, rfl, by decide, uX4, q_f_X4_54⟩
theorem pl_X4_54 : PL RX4 54 4 12 (.object "NeedNotJoin$World") true := ⟨RX4, TX4, 16, tyX4, rfl, by decide, uX4, q_f_X4_54, tyX4_ok, nmX4, rfl, rfl, fun _ => rfl⟩
theorem fl_X4_57 : FL RX4 57 4 13 := ⟨RX4, TX4, 16, rfl, by decide, uX4, q_f_X4_57⟩
theorem pl_X4_57 : PL RX4 57 4 13 (.array .int) true := ⟨RX4, TX4, 16, tyX4, rfl, by decide, uX4, q_f_X4_57, tyX4_ok, nmX4, rfl, rfl, fun _ => rfl⟩
theorem fl_X4_60 : FL RX4 60 4 14 := ⟨RX4, TX4, 16, rfl, by decide, uX4, q_f_X4_60⟩
theorem pl_X4_60 : PL RX4 60 4 14 (.array .int) true := ⟨RX4, TX4, 16, tyX4, rfl, by decide, uX4, q_f_X4_60, tyX4_ok, nmX4, rfl, rfl, fun _ => rfl⟩
theorem fl_X4_63 : FL RX4 63 4 15 := ⟨RX4, TX4, 16, rfl, by decide, uX4, q_f_X4_63⟩
theorem pl_X4_63 : PL RX4 63 4 15 (.array .int) true := ⟨RX4, TX4, 16, tyX4, rfl, by decide, uX4, q_f_X4_63, tyX4_ok, nmX4, rfl, rfl, fun _ => rfl⟩
theorem fl_X0_7 : FL RX0 7 0 0 := ⟨RX0, TX0, 6, rfl, by decide, uX0, q_f_X0_7⟩
theorem pl_X0_7 : PL RX0 7 0 0 (.int) false := ⟨RX0, TX0, 6, tyX0, rfl, by decide, uX0, q_f_X0_7, tyX0_ok, nmX0, rfl, rfl, fun _ => rfl⟩
theorem fl_X0_13 : FL RX0 13 0 1 := ⟨RX0, TX0, 6, rfl, by decide, uX0, q_f_X0_13⟩
theorem pl_X0_13 : PL RX0 13 0 1 (.int) false := ⟨RX0, TX0, 6, tyX0, rfl, by decide, uX0, q_f_X0_13, tyX0_ok, nmX0, rfl, rfl, fun _ => rfl⟩
theorem fl_X0_16 : FL RX0 16 0 2 := ⟨RX0, TX0, 6, rfl, by decide, uX0, q_f_X0_16⟩
theorem pl_X0_16 : PL RX0 16 0 2 (.int) false := ⟨RX0, TX0, 6, tyX0, rfl, by decide, uX0, q_f_X0_16, tyX0_ok, nmX0, rfl, rfl, fun _ => rfl⟩
theorem fl_X0_21 : FL RX0 21 0 3 := ⟨RX0, TX0, 6, rfl, by decide, uX0, q_f_X0_21⟩
theorem pl_X0_21 : PL RX0 21 0 3 (.array (.array .int)) true := ⟨RX0, TX0, 6, tyX0, rfl, by decide, uX0, q_f_X0_21, tyX0_ok, nmX0, rfl, rfl, fun _ => rfl⟩
theorem fl_X0_24 : FL RX0 24 0 4 := ⟨RX0, TX0, 6, rfl, by decide, uX0, q_f_X0_24⟩
theorem pl_X0_24 : PL RX0 24 0 4 (.array .boolean) true := ⟨RX0, TX0, 6, tyX0, rfl, by decide, uX0, q_f_X0_24, tyX0_ok, nmX0, rfl, rfl, fun _ => rfl⟩
theorem fl_X0_28 : FL RX0 28 0 5 := ⟨RX0, TX0, 6, rfl, by decide, uX0, q_f_X0_28⟩
theorem pl_X0_28 : PL RX0 28 0 5 (.array .int) true := ⟨RX0, TX0, 6, tyX0, rfl, by decide, uX0, q_f_X0_28, tyX0_ok, nmX0, rfl, rfl, fun _ => rfl⟩
theorem fl_X1_21 : FL RX1 21 1 0 := ⟨RX1, TX1, 4, rfl, by decide, uX1, q_f_X1_21⟩
theorem pl_X1_21 : PL RX1 21 1 0 (.object "NeedNotJoin$Echelon") true := ⟨RX1, TX1, 4, tyX1, rfl, by decide, uX1, q_f_X1_21, tyX1_ok, nmX1, rfl, rfl, fun _ => rfl⟩
theorem fl_X1_9 : FL RX1 9 1 1 := ⟨RX1, TX1, 4, rfl, by decide, uX1, q_f_X1_9⟩
theorem pl_X1_9 : PL RX1 9 1 1 (.array .int) true := ⟨RX1, TX1, 4, tyX1, rfl, by decide, uX1, q_f_X1_9, tyX1_ok, nmX1, rfl, rfl, fun _ => rfl⟩
theorem fl_X1_15 : FL RX1 15 1 2 := ⟨RX1, TX1, 4, rfl, by decide, uX1, q_f_X1_15⟩
theorem pl_X1_15 : PL RX1 15 1 2 (.array .int) true := ⟨RX1, TX1, 4, tyX1, rfl, by decide, uX1, q_f_X1_15, tyX1_ok, nmX1, rfl, rfl, fun _ => rfl⟩
theorem fl_X1_18 : FL RX1 18 1 3 := ⟨RX1, TX1, 4, rfl, by decide, uX1, q_f_X1_18⟩
theorem pl_X1_18 : PL RX1 18 1 3 (.array .int) true := ⟨RX1, TX1, 4, tyX1, rfl, by decide, uX1, q_f_X1_18, tyX1_ok, nmX1, rfl, rfl, fun _ => rfl⟩
theorem fl_X7_28 : FL RX7 28 7 0 := ⟨RX7, TX7, 7, rfl, by decide, uX7, q_f_X7_28⟩
theorem pl_X7_28 : PL RX7 28 7 0 (.object "NeedNotJoin$Echelon") true := ⟨RX7, TX7, 7, tyX7, rfl, by decide, uX7, q_f_X7_28, tyX7_ok, nmX7, rfl, rfl, fun _ => rfl⟩
theorem fl_X7_32 : FL RX7 32 7 1 := ⟨RX7, TX7, 7, rfl, by decide, uX7, q_f_X7_32⟩
theorem pl_X7_32 : PL RX7 32 7 1 (.object "NeedNotJoin$Forms") true := ⟨RX7, TX7, 7, tyX7, rfl, by decide, uX7, q_f_X7_32, tyX7_ok, nmX7, rfl, rfl, fun _ => rfl⟩
theorem fl_X7_9 : FL RX7 9 7 2 := ⟨RX7, TX7, 7, rfl, by decide, uX7, q_f_X7_9⟩
theorem pl_X7_9 : PL RX7 9 7 2 (.array .int) true := ⟨RX7, TX7, 7, tyX7, rfl, by decide, uX7, q_f_X7_9, tyX7_ok, nmX7, rfl, rfl, fun _ => rfl⟩
theorem fl_X7_15 : FL RX7 15 7 3 := ⟨RX7, TX7, 7, rfl, by decide, uX7, q_f_X7_15⟩
theorem pl_X7_15 : PL RX7 15 7 3 (.array .int) true := ⟨RX7, TX7, 7, tyX7, rfl, by decide, uX7, q_f_X7_15, tyX7_ok, nmX7, rfl, rfl, fun _ => rfl⟩
theorem fl_X7_18 : FL RX7 18 7 4 := ⟨RX7, TX7, 7, rfl, by decide, uX7, q_f_X7_18⟩
theorem pl_X7_18 : PL RX7 18 7 4 (.array .int) true := ⟨RX7, TX7, 7, tyX7, rfl, by decide, uX7, q_f_X7_18, tyX7_ok, nmX7, rfl, rfl, fun _ => rfl⟩
theorem fl_X7_21 : FL RX7 21 7 5 := ⟨RX7, TX7, 7, rfl, by decide, uX7, q_f_X7_21⟩
theorem pl_X7_21 : PL RX7 21 7 5 (.array .int) true := ⟨RX7, TX7, 7, tyX7, rfl, by decide, uX7, q_f_X7_21, tyX7_ok, nmX7, rfl, rfl, fun _ => rfl⟩
theorem fl_X7_24 : FL RX7 24 7 6 := ⟨RX7, TX7, 7, rfl, by decide, uX7, q_f_X7_24⟩
theorem pl_X7_24 : PL RX7 24 7 6 (.array .boolean) true := ⟨RX7, TX7, 7, tyX7, rfl, by decide, uX7, q_f_X7_24, tyX7_ok, nmX7, rfl, rfl, fun _ => rfl⟩
theorem fl_X3_9 : FL RX3 9 3 0 := ⟨RX3, TX3, 1, rfl, by decide, uX3, q_f_X3_9⟩
theorem pl_X3_9 : PL RX3 9 3 0 (.object "NeedNotJoin$Study") true := ⟨RX3, TX3, 1, tyX3, rfl, by decide, uX3, q_f_X3_9, tyX3_ok, nmX3, rfl, rfl, fun _ => rfl⟩
theorem fl_X5_9 : FL RX5 9 5 0 := ⟨RX5, TX5, 18, rfl, by decide, uX5, q_f_X5_9⟩
theorem pl_X5_9 : PL RX5 9 5 0 (.int) false := ⟨RX5, TX5, 18, tyX5, rfl, by decide, uX5, q_f_X5_9, tyX5_ok, nmX5, rfl, rfl, fun _ => rfl⟩
theorem fl_X5_15 : FL RX5 15 5 1 := ⟨RX5, TX5, 18, rfl, by decide, uX5, q_f_X5_15⟩
theorem pl_X5_15 : PL RX5 15 5 1 (.int) false := ⟨RX5, TX5, 18, tyX5, rfl, by decide, uX5, q_f_X5_15, tyX5_ok, nmX5, rfl, rfl, fun _ => rfl⟩
theorem fl_X5_18 : FL RX5 18 5 2 := ⟨RX5, TX5, 18, rfl, by decide, uX5, q_f_X5_18⟩
theorem pl_X5_18 : PL RX5 18 5 2 (.int) false := ⟨RX5, TX5, 18, tyX5, rfl, by decide, uX5, q_f_X5_18, tyX5_ok, nmX5, rfl, rfl, fun _ => rfl⟩
theorem fl_X5_21 : FL RX5 21 5 3 := ⟨RX5, TX5, 18, rfl, by decide, uX5, q_f_X5_21⟩
theorem pl_X5_21 : PL RX5 21 5 3 (.int) false := ⟨RX5, TX5, 18, tyX5, rfl, by decide, uX5, q_f_X5_21, tyX5_ok, nmX5, rfl, rfl, fun _ => rfl⟩
theorem fl_X5_24 : FL RX5 24 5 4 := ⟨RX5, TX5, 18, rfl, by decide, uX5, q_f_X5_24⟩
theorem pl_X5_24 : PL RX5 24 5 4 (.int) false := ⟨RX5, TX5, 18, tyX5, rfl, by decide, uX5, q_f_X5_24, tyX5_ok, nmX5, rfl, rfl, fun _ => rfl⟩
theorem fl_X5_27 : FL RX5 27 5 5 := ⟨RX5, TX5, 18, rfl, by decide, uX5, q_f_X5_27⟩
theorem pl_X5_27 : PL RX5 27 5 5 (.array .int) true := ⟨RX5, TX5, 18, tyX5, rfl, by decide, uX5, q_f_X5_27, tyX5_ok, nmX5, rfl, rfl, fun _ => rfl⟩
theorem fl_X5_31 : FL RX5 31 5 6 := ⟨RX5, TX5, 18, rfl, by decide, uX5, q_f_X5_31⟩
theorem pl_X5_31 : PL RX5 31 5 6 (.array .int) true := ⟨RX5, TX5, 18, tyX5, rfl, by decide, uX5, q_f_X5_31, tyX5_ok, nmX5, rfl, rfl, fun _ => rfl⟩
theorem fl_X5_34 : FL RX5 34 5 7 := ⟨RX5, TX5, 18, rfl, by decide, uX5, q_f_X5_34⟩
theorem pl_X5_34 : PL RX5 34 5 7 (.array .int) true := ⟨RX5, TX5, 18, tyX5, rfl, by decide, uX5, q_f_X5_34, tyX5_ok, nmX5, rfl, rfl, fun _ => rfl⟩
theorem fl_X5_37 : FL RX5 37 5 8 := ⟨RX5, TX5, 18, rfl, by decide, uX5, q_f_X5_37⟩
theorem pl_X5_37 : PL RX5 37 5 8 (.array .int) true := ⟨RX5, TX5, 18, tyX5, rfl, by decide, uX5, q_f_X5_37, tyX5_ok, nmX5, rfl, rfl, fun _ => rfl⟩
theorem fl_X5_40 : FL RX5 40 5 9 := ⟨RX5, TX5, 18, rfl, by decide, uX5, q_f_X5_40⟩
theorem pl_X5_40 : PL RX5 40 5 9 (.array .int) true := ⟨RX5, TX5, 18, tyX5, rfl, by decide, uX5, q_f_X5_40, tyX5_ok, nmX5, rfl, rfl, fun _ => rfl⟩
theorem fl_X5_43 : FL RX5 43 5 10 := ⟨RX5, TX5, 18, rfl, by decide, uX5, q_f_X5_43⟩
theorem pl_X5_43 : PL RX5 43 5 10 (.array .int) true := ⟨RX5, TX5, 18, tyX5, rfl, by decide, uX5, q_f_X5_43, tyX5_ok, nmX5, rfl, rfl, fun _ => rfl⟩
theorem fl_X5_46 : FL RX5 46 5 11 := ⟨RX5, TX5, 18, rfl, by decide, uX5, q_f_X5_46⟩
theorem pl_X5_46 : PL RX5 46 5 11 (.array .int) true := ⟨RX5, TX5, 18, tyX5, rfl, by decide, uX5, q_f_X5_46, tyX5_ok, nmX5, rfl, rfl, fun _ => rfl⟩
theorem fl_X5_49 : FL RX5 49 5 12 := ⟨RX5, TX5, 18, rfl, by decide, uX5, q_f_X5_49⟩
theorem pl_X5_49 : PL RX5 49 5 12 (.array .int) true := ⟨RX5, TX5, 18, tyX5, rfl, by decide, uX5, q_f_X5_49, tyX5_ok, nmX5, rfl, rfl, fun _ => rfl⟩
theorem fl_X5_52 : FL RX5 52 5 13 := ⟨RX5, TX5, 18, rfl, by decide, uX5, q_f_X5_52⟩
theorem pl_X5_52 : PL RX5 52 5 13 (.array .int) true := ⟨RX5, TX5, 18, tyX5, rfl, by decide, uX5, q_f_X5_52, tyX5_ok, nmX5, rfl, rfl, fun _ => rfl⟩
theorem fl_X5_55 : FL RX5 55 5 14 := ⟨RX5, TX5, 18, rfl, by decide, uX5, q_f_X5_55⟩
theorem pl_X5_55 : PL RX5 55 5 14 (.array .int) true := ⟨RX5, TX5, 18, tyX5, rfl, by decide, uX5, q_f_X5_55, tyX5_ok, nmX5, rfl, rfl, fun _ => rfl⟩
theorem fl_X5_58 : FL RX5 58 5 15 := ⟨RX5, TX5, 18, rfl, by decide, uX5, q_f_X5_58⟩
theorem pl_X5_58 : PL RX5 58 5 15 (.array .int) true := ⟨RX5, TX5, 18, tyX5, rfl, by decide, uX5, q_f_X5_58, tyX5_ok, nmX5, rfl, rfl, fun _ => rfl⟩
theorem fl_X5_61 : FL RX5 61 5 16 := ⟨RX5, TX5, 18, rfl, by decide, uX5, q_f_X5_61⟩
theorem pl_X5_61 : PL RX5 61 5 16 (.array .int) true := ⟨RX5, TX5, 18, tyX5, rfl, by decide, uX5, q_f_X5_61, tyX5_ok, nmX5, rfl, rfl, fun _ => rfl⟩
theorem fl_X5_64 : FL RX5 64 5 17 := ⟨RX5, TX5, 18, rfl, by decide, uX5, q_f_X5_64⟩
theorem pl_X5_64 : PL RX5 64 5 17 (.array .int) true := ⟨RX5, TX5, 18, tyX5, rfl, by decide, uX5, q_f_X5_64, tyX5_ok, nmX5, rfl, rfl, fun _ => rfl⟩
theorem fl_X2_30 : FL RX2 30 2 0 := ⟨RX2, TX2, 5, rfl, by decide, uX2, q_f_X2_30⟩
theorem pl_X2_30 : PL RX2 30 2 0 (.object "NeedNotJoin$Study") true := ⟨RX2, TX2, 5, tyX2, rfl, by decide, uX2, q_f_X2_30, tyX2_ok, nmX2, rfl, rfl, fun _ => rfl⟩
theorem fl_X2_12 : FL RX2 12 2 1 := ⟨RX2, TX2, 5, rfl, by decide, uX2, q_f_X2_12⟩
theorem pl_X2_12 : PL RX2 12 2 1 (.object "NeedNotJoin$World") true := ⟨RX2, TX2, 5, tyX2, rfl, by decide, uX2, q_f_X2_12, tyX2_ok, nmX2, rfl, rfl, fun _ => rfl⟩
theorem fl_X2_18 : FL RX2 18 2 2 := ⟨RX2, TX2, 5, rfl, by decide, uX2, q_f_X2_18⟩
theorem pl_X2_18 : PL RX2 18 2 2 (.array .boolean) true := ⟨RX2, TX2, 5, tyX2, rfl, by decide, uX2, q_f_X2_18, tyX2_ok, nmX2, rfl, rfl, fun _ => rfl⟩
theorem fl_X2_24 : FL RX2 24 2 3 := ⟨RX2, TX2, 5, rfl, by decide, uX2, q_f_X2_24⟩
theorem pl_X2_24 : PL RX2 24 2 3 (.array (.array .int)) true := ⟨RX2, TX2, 5, tyX2, rfl, by decide, uX2, q_f_X2_24, tyX2_ok, nmX2, rfl, rfl, fun _ => rfl⟩
theorem fl_X2_27 : FL RX2 27 2 4 := ⟨RX2, TX2, 5, rfl, by decide, uX2, q_f_X2_27⟩
theorem pl_X2_27 : PL RX2 27 2 4 (.array (.array .int)) true := ⟨RX2, TX2, 5, tyX2, rfl, by decide, uX2, q_f_X2_27, tyX2_ok, nmX2, rfl, rfl, fun _ => rfl⟩
theorem fl_X10_10 : FL RX10 10 9 0 := ⟨RX10, TX10, 11, rfl, by decide, uX10, q_f_X10_10⟩
theorem pl_X10_10 : PL RX10 10 9 0 (.object "NeedNotJoin$State") true := ⟨RX10, TX10, 11, tyX10, rfl, by decide, uX10, q_f_X10_10, tyX10_ok, nmX10, rfl, rfl, fun _ => rfl⟩
theorem fl_X10_16 : FL RX10 16 9 1 := ⟨RX10, TX10, 11, rfl, by decide, uX10, q_f_X10_16⟩
theorem pl_X10_16 : PL RX10 16 9 1 (.object "NeedNotJoin$State") true := ⟨RX10, TX10, 11, tyX10, rfl, by decide, uX10, q_f_X10_16, tyX10_ok, nmX10, rfl, rfl, fun _ => rfl⟩
theorem fl_X10_19 : FL RX10 19 9 2 := ⟨RX10, TX10, 11, rfl, by decide, uX10, q_f_X10_19⟩
theorem pl_X10_19 : PL RX10 19 9 2 (.boolean) false := ⟨RX10, TX10, 11, tyX10, rfl, by decide, uX10, q_f_X10_19, tyX10_ok, nmX10, rfl, rfl, fun _ => rfl⟩
theorem fl_X10_26 : FL RX10 26 9 3 := ⟨RX10, TX10, 11, rfl, by decide, uX10, q_f_X10_26⟩
theorem pl_X10_26 : PL RX10 26 9 3 (.object "NeedNotJoin$Reader") true := ⟨RX10, TX10, 11, tyX10, rfl, by decide, uX10, q_f_X10_26, tyX10_ok, nmX10, rfl, rfl, fun _ => rfl⟩
theorem fl_X10_33 : FL RX10 33 9 4 := ⟨RX10, TX10, 11, rfl, by decide, uX10, q_f_X10_33⟩
theorem pl_X10_33 : PL RX10 33 9 4 (.object "NeedNotJoin$Echelon") true := ⟨RX10, TX10, 11, tyX10, rfl, by decide, uX10, q_f_X10_33, tyX10_ok, nmX10, rfl, rfl, fun _ => rfl⟩
theorem fl_X10_42 : FL RX10 42 9 5 := ⟨RX10, TX10, 11, rfl, by decide, uX10, q_f_X10_42⟩
theorem pl_X10_42 : PL RX10 42 9 5 (.object "NeedNotJoin$Forms") true := ⟨RX10, TX10, 11, tyX10, rfl, by decide, uX10, q_f_X10_42, tyX10_ok, nmX10, rfl, rfl, fun _ => rfl⟩
theorem fl_X10_51 : FL RX10 51 9 6 := ⟨RX10, TX10, 11, rfl, by decide, uX10, q_f_X10_51⟩
theorem pl_X10_51 : PL RX10 51 9 6 (.object "NeedNotJoin$Study") true := ⟨RX10, TX10, 11, tyX10, rfl, by decide, uX10, q_f_X10_51, tyX10_ok, nmX10, rfl, rfl, fun _ => rfl⟩
theorem fl_X10_60 : FL RX10 60 9 7 := ⟨RX10, TX10, 11, rfl, by decide, uX10, q_f_X10_60⟩
theorem pl_X10_60 : PL RX10 60 9 7 (.object "NeedNotJoin$Plane") true := ⟨RX10, TX10, 11, tyX10, rfl, by decide, uX10, q_f_X10_60, tyX10_ok, nmX10, rfl, rfl, fun _ => rfl⟩
theorem fl_X10_67 : FL RX10 67 9 8 := ⟨RX10, TX10, 11, rfl, by decide, uX10, q_f_X10_67⟩
theorem pl_X10_67 : PL RX10 67 9 8 (.object "NeedNotJoin$Search") true := ⟨RX10, TX10, 11, tyX10, rfl, by decide, uX10, q_f_X10_67, tyX10_ok, nmX10, rfl, rfl, fun _ => rfl⟩
theorem fl_X10_74 : FL RX10 74 9 9 := ⟨RX10, TX10, 11, rfl, by decide, uX10, q_f_X10_74⟩
theorem pl_X10_74 : PL RX10 74 9 9 (.object "NeedNotJoin$Lists") true := ⟨RX10, TX10, 11, tyX10, rfl, by decide, uX10, q_f_X10_74, tyX10_ok, nmX10, rfl, rfl, fun _ => rfl⟩
theorem fl_X10_81 : FL RX10 81 9 10 := ⟨RX10, TX10, 11, rfl, by decide, uX10, q_f_X10_81⟩
theorem pl_X10_81 : PL RX10 81 9 10 (.object "NeedNotJoin$World") true := ⟨RX10, TX10, 11, tyX10, rfl, by decide, uX10, q_f_X10_81, tyX10_ok, nmX10, rfl, rfl, fun _ => rfl⟩
theorem fl_X11_7 : FL RX11 7 10 0 := ⟨RX11, TX11, 5, rfl, by decide, uX11, q_f_X11_7⟩
theorem pl_X11_7 : PL RX11 7 10 0 (.int) false := ⟨RX11, TX11, 5, tyX11, rfl, by decide, uX11, q_f_X11_7, tyX11_ok, nmX11, rfl, rfl, fun _ => rfl⟩
theorem fl_X11_13 : FL RX11 13 10 1 := ⟨RX11, TX11, 5, rfl, by decide, uX11, q_f_X11_13⟩
theorem pl_X11_13 : PL RX11 13 10 1 (.int) false := ⟨RX11, TX11, 5, tyX11, rfl, by decide, uX11, q_f_X11_13, tyX11_ok, nmX11, rfl, rfl, fun _ => rfl⟩
theorem fl_X11_16 : FL RX11 16 10 2 := ⟨RX11, TX11, 5, rfl, by decide, uX11, q_f_X11_16⟩
theorem pl_X11_16 : PL RX11 16 10 2 (.int) false := ⟨RX11, TX11, 5, tyX11, rfl, by decide, uX11, q_f_X11_16, tyX11_ok, nmX11, rfl, rfl, fun _ => rfl⟩
theorem fl_X11_21 : FL RX11 21 10 3 := ⟨RX11, TX11, 5, rfl, by decide, uX11, q_f_X11_21⟩
theorem pl_X11_21 : PL RX11 21 10 3 (.array (.array (.array .int))) false := ⟨RX11, TX11, 5, tyX11, rfl, by decide, uX11, q_f_X11_21, tyX11_ok, nmX11, rfl, rfl, fun _ => rfl⟩
theorem fl_X11_38 : FL RX11 38 10 4 := ⟨RX11, TX11, 5, rfl, by decide, uX11, q_f_X11_38⟩
theorem pl_X11_38 : PL RX11 38 10 4 (.array (.array .int)) false := ⟨RX11, TX11, 5, tyX11, rfl, by decide, uX11, q_f_X11_38, tyX11_ok, nmX11, rfl, rfl, fun _ => rfl⟩
theorem fl_J5_15 : FL RJ5 15 12 0 := ⟨RJ4, TJ4, 4, rfl, by decide, uJ4, q_f_J5_15⟩
theorem pl_J5_15 : PL RJ5 15 12 0 (.array .byte) false := ⟨RJ4, TJ4, 4, tyJ4, rfl, by decide, uJ4, q_f_J5_15, tyJ4_ok, nmJ4, rfl, rfl, fun q => absurd q (by decide)⟩
theorem fl_J5_22 : FL RJ5 22 12 1 := ⟨RJ4, TJ4, 4, rfl, by decide, uJ4, q_f_J5_22⟩
theorem pl_J5_22 : PL RJ5 22 12 1 (.byte) false := ⟨RJ4, TJ4, 4, tyJ4, rfl, by decide, uJ4, q_f_J5_22, tyJ4_ok, nmJ4, rfl, rfl, fun q => absurd q (by decide)⟩
theorem fl_J0_1048 : FL RJ0 1048 12 2 := ⟨RJ4, TJ4, 4, rfl, by decide, uJ4, q_f_J0_1048⟩
theorem fl_J5_79 : FL RJ5 79 12 3 := ⟨RJ4, TJ4, 4, rfl, by decide, uJ4, q_f_J5_79⟩
theorem pl_J5_79 : PL RJ5 79 12 3 (.int) false := ⟨RJ4, TJ4, 4, tyJ4, rfl, by decide, uJ4, q_f_J5_79, tyJ4_ok, nmJ4, rfl, rfl, fun q => absurd q (by decide)⟩
theorem fl_J0_9 : FL RJ0 9 11 0 := ⟨RJ0, TJ0, 2, rfl, by decide, uJ0, q_f_J0_9⟩
theorem pl_J0_9 : PL RJ0 9 11 0 (.array .byte) true := ⟨RJ0, TJ0, 2, tyJ0, rfl, by decide, uJ0, q_f_J0_9, tyJ0_ok2, nmJ0_2, rfl, rfl, fun _ => rfl⟩
theorem fl_J0_15 : FL RJ0 15 11 1 := ⟨RJ0, TJ0, 2, rfl, by decide, uJ0, q_f_J0_15⟩
theorem pl_J0_15 : PL RJ0 15 11 1 (.byte) true := ⟨RJ0, TJ0, 2, tyJ0, rfl, by decide, uJ0, q_f_J0_15, tyJ0_ok2, nmJ0_2, rfl, rfl, fun _ => rfl⟩
theorem bX0_init : BY yX0_init MX0_init 0 := ⟨q_c_X0_init, q_in_X0, by decide +kernel, rfl⟩
theorem bX0_start : BY yX0_start MX0_start 2 := ⟨q_c_X0_start, q_in_X0, by decide +kernel, rfl⟩
theorem bX0_rank : BY yX0_rank MX0_rank 0 := ⟨q_c_X0_rank, q_in_X0, by decide +kernel, rfl⟩
theorem bX0_add : BY yX0_add MX0_add 2 := ⟨q_c_X0_add, q_in_X0, by decide +kernel, rfl⟩
theorem bX0_settle : BY yX0_settle MX0_settle 0 := ⟨q_c_X0_settle, q_in_X0, by decide +kernel, rfl⟩
theorem bX0_reduce : BY yX0_reduce MX0_reduce 1 := ⟨q_c_X0_reduce, q_in_X0, by decide +kernel, rfl⟩
theorem bX0_lead : BY yX0_lead MX0_lead 1 := ⟨q_c_X0_lead, q_in_X0, by decide +kernel, rfl⟩
theorem bX1_init : BY yX1_init MX1_init 1 := ⟨q_c_X1_init, q_in_X1, by decide +kernel, rfl⟩
theorem bX1_rankOf : BY yX1_rankOf MX1_rankOf 3 := ⟨q_c_X1_rankOf, q_in_X1, by decide +kernel, rfl⟩
theorem bX1_entry : BY yX1_entry MX1_entry 4 := ⟨q_c_X1_entry, q_in_X1, by decide +kernel, rfl⟩
theorem bX1_leastSingular : BY yX1_leastSingular MX1_leastSingular 2 := ⟨q_c_X1_leastSingular, q_in_X1, by decide +kernel, rfl⟩
theorem bX1_planar : BY yX1_planar MX1_planar 1 := ⟨q_c_X1_planar, q_in_X1, by decide +kernel, rfl⟩
theorem bX1_derivations : BY yX1_derivations MX1_derivations 1 := ⟨q_c_X1_derivations, q_in_X1, by decide +kernel, rfl⟩
theorem bX1_triples : BY yX1_triples MX1_triples 1 := ⟨q_c_X1_triples, q_in_X1, by decide +kernel, rfl⟩
theorem bX1_demandDerivative : BY yX1_demandDerivative MX1_demandDerivative 3 := ⟨q_c_X1_demandDerivative, q_in_X1, by decide +kernel, rfl⟩
theorem bX2_init : BY yX2_init MX2_init 1 := ⟨q_c_X2_init, q_in_X2, by decide +kernel, rfl⟩
theorem bX3_init : BY yX3_init MX3_init 1 := ⟨q_c_X3_init, q_in_X3, by decide +kernel, rfl⟩
theorem bX4_init : BY yX4_init MX4_init 0 := ⟨q_c_X4_init, q_in_X4, by decide +kernel, rfl⟩
theorem bX4_hasRoom : BY yX4_hasRoom MX4_hasRoom 0 := ⟨q_c_X4_hasRoom, q_in_X4, by decide +kernel, rfl⟩
theorem bX4_takeNumber : BY yX4_takeNumber MX4_takeNumber 1 := ⟨q_c_X4_takeNumber, q_in_X4, by decide +kernel, rfl⟩
theorem bX4_length : BY yX4_length MX4_length 0 := ⟨q_c_X4_length, q_in_X4, by decide +kernel, rfl⟩
theorem bX4_cutAt : BY yX4_cutAt MX4_cutAt 1 := ⟨q_c_X4_cutAt, q_in_X4, by decide +kernel, rfl⟩
theorem bX4_forget : BY yX4_forget MX4_forget 0 := ⟨q_c_X4_forget, q_in_X4, by decide +kernel, rfl⟩
theorem bX4_told : BY yX4_told MX4_told 0 := ⟨q_c_X4_told, q_in_X4, by decide +kernel, rfl⟩
theorem bX4_read : BY yX4_read MX4_read 0 := ⟨q_c_X4_read, q_in_X4, by decide +kernel, rfl⟩
theorem bX4_fail : BY yX4_fail MX4_fail 1 := ⟨q_c_X4_fail, q_in_X4, by decide +kernel, rfl⟩
theorem bX4_statement : BY yX4_statement MX4_statement 0 := ⟨q_c_X4_statement, q_in_X4, by decide +kernel, rfl⟩
theorem bX4_expect : BY yX4_expect MX4_expect 1 := ⟨q_c_X4_expect, q_in_X4, by decide +kernel, rfl⟩
theorem bX4_numberBelow : BY yX4_numberBelow MX4_numberBelow 1 := ⟨q_c_X4_numberBelow, q_in_X4, by decide +kernel, rfl⟩
theorem bX4_order : BY yX4_order MX4_order 0 := ⟨q_c_X4_order, q_in_X4, by decide +kernel, rfl⟩
theorem bX4_polynomials : BY yX4_polynomials MX4_polynomials 0 := ⟨q_c_X4_polynomials, q_in_X4, by decide +kernel, rfl⟩
theorem bX4_fillPolynomials : BY yX4_fillPolynomials MX4_fillPolynomials 0 := ⟨q_c_X4_fillPolynomials, q_in_X4, by decide +kernel, rfl⟩
theorem bX4_twist : BY yX4_twist MX4_twist 0 := ⟨q_c_X4_twist, q_in_X4, by decide +kernel, rfl⟩
theorem bX4_fillTwist : BY yX4_fillTwist MX4_fillTwist 3 := ⟨q_c_X4_fillTwist, q_in_X4, by decide +kernel, rfl⟩
theorem bX4_raise : BY yX4_raise MX4_raise 2 := ⟨q_c_X4_raise, q_in_X4, by decide +kernel, rfl⟩
theorem bX4_row : BY yX4_row MX4_row 0 := ⟨q_c_X4_row, q_in_X4, by decide +kernel, rfl⟩
theorem bX4_turning : BY yX4_turning MX4_turning 0 := ⟨q_c_X4_turning, q_in_X4, by decide +kernel, rfl⟩
theorem bX4_step : BY yX4_step MX4_step 0 := ⟨q_c_X4_step, q_in_X4, by decide +kernel, rfl⟩
theorem bX4_stepNumber : BY yX4_stepNumber MX4_stepNumber 0 := ⟨q_c_X4_stepNumber, q_in_X4, by decide +kernel, rfl⟩
theorem bX4_isWord : BY yX4_isWord MX4_isWord 1 := ⟨q_c_X4_isWord, q_in_X4, by decide +kernel, rfl⟩
theorem bX4_isLetter : BY yX4_isLetter MX4_isLetter 1 := ⟨q_c_X4_isLetter, q_in_X4, by decide +kernel, rfl⟩
theorem bX4_isDigit : BY yX4_isDigit MX4_isDigit 1 := ⟨q_c_X4_isDigit, q_in_X4, by decide +kernel, rfl⟩
theorem bX5_init : BY yX5_init MX5_init 0 := ⟨q_c_X5_init, q_in_X5, by decide +kernel, rfl⟩
theorem bX6_init : BY yX6_init MX6_init 0 := ⟨q_c_X6_init, q_in_X6, by decide +kernel, rfl⟩
theorem bX6_world : BY yX6_world MX6_world 1 := ⟨q_c_X6_world, q_in_X6, by decide +kernel, rfl⟩
theorem bX6_tell : BY yX6_tell MX6_tell 2 := ⟨q_c_X6_tell, q_in_X6, by decide +kernel, rfl⟩
theorem bX6_dropOldest : BY yX6_dropOldest MX6_dropOldest 0 := ⟨q_c_X6_dropOldest, q_in_X6, by decide +kernel, rfl⟩
theorem bX6_canGoBack : BY yX6_canGoBack MX6_canGoBack 0 := ⟨q_c_X6_canGoBack, q_in_X6, by decide +kernel, rfl⟩
theorem bX6_canGoForth : BY yX6_canGoForth MX6_canGoForth 0 := ⟨q_c_X6_canGoForth, q_in_X6, by decide +kernel, rfl⟩
theorem bX6_imageAt : BY yX6_imageAt MX6_imageAt 1 := ⟨q_c_X6_imageAt, q_in_X6, by decide +kernel, rfl⟩
theorem bX7_init : BY yX7_init MX7_init 2 := ⟨q_c_X7_init, q_in_X7, by decide +kernel, rfl⟩
theorem bX7_divides : BY yX7_divides MX7_divides 1 := ⟨q_c_X7_divides, q_in_X7, by decide +kernel, rfl⟩
theorem bX7_failing : BY yX7_failing MX7_failing 1 := ⟨q_c_X7_failing, q_in_X7, by decide +kernel, rfl⟩
theorem bX7_leastToNought : BY yX7_leastToNought MX7_leastToNought 2 := ⟨q_c_X7_leastToNought, q_in_X7, by decide +kernel, rfl⟩
theorem bX7_unit : BY yX7_unit MX7_unit 1 := ⟨q_c_X7_unit, q_in_X7, by decide +kernel, rfl⟩
theorem bX7_isUnit : BY yX7_isUnit MX7_isUnit 2 := ⟨q_c_X7_isUnit, q_in_X7, by decide +kernel, rfl⟩
theorem bX7_difference : BY yX7_difference MX7_difference 4 := ⟨q_c_X7_difference, q_in_X7, by decide +kernel, rfl⟩
theorem bX7_firstUnjoined : BY yX7_firstUnjoined MX7_firstUnjoined 1 := ⟨q_c_X7_firstUnjoined, q_in_X7, by decide +kernel, rfl⟩
theorem bX7_findDifferences : BY yX7_findDifferences MX7_findDifferences 1 := ⟨q_c_X7_findDifferences, q_in_X7, by decide +kernel, rfl⟩
theorem bX7_nucleus : BY yX7_nucleus MX7_nucleus 2 := ⟨q_c_X7_nucleus, q_in_X7, by decide +kernel, rfl⟩
theorem bX7_centre : BY yX7_centre MX7_centre 1 := ⟨q_c_X7_centre, q_in_X7, by decide +kernel, rfl⟩
theorem bX7_demandJoining : BY yX7_demandJoining MX7_demandJoining 2 := ⟨q_c_X7_demandJoining, q_in_X7, by decide +kernel, rfl⟩
theorem bX7_demandNought : BY yX7_demandNought MX7_demandNought 3 := ⟨q_c_X7_demandNought, q_in_X7, by decide +kernel, rfl⟩
theorem bX7_demandCommuting : BY yX7_demandCommuting MX7_demandCommuting 1 := ⟨q_c_X7_demandCommuting, q_in_X7, by decide +kernel, rfl⟩
theorem bX7_idempotents : BY yX7_idempotents MX7_idempotents 1 := ⟨q_c_X7_idempotents, q_in_X7, by decide +kernel, rfl⟩
theorem bX7_squares : BY yX7_squares MX7_squares 1 := ⟨q_c_X7_squares, q_in_X7, by decide +kernel, rfl⟩
theorem bX7_forgetSeen : BY yX7_forgetSeen MX7_forgetSeen 0 := ⟨q_c_X7_forgetSeen, q_in_X7, by decide +kernel, rfl⟩
theorem bX7_isFirstSeen : BY yX7_isFirstSeen MX7_isFirstSeen 1 := ⟨q_c_X7_isFirstSeen, q_in_X7, by decide +kernel, rfl⟩
theorem bX8_isPrime : BY yX8_isPrime MX8_isPrime 1 := ⟨q_c_X8_isPrime, q_in_X8, by decide +kernel, rfl⟩
theorem bX8_power : BY yX8_power MX8_power 2 := ⟨q_c_X8_power, q_in_X8, by decide +kernel, rfl⟩
theorem bX8_plus : BY yX8_plus MX8_plus 3 := ⟨q_c_X8_plus, q_in_X8, by decide +kernel, rfl⟩
theorem bX8_manifold : BY yX8_manifold MX8_manifold 3 := ⟨q_c_X8_manifold, q_in_X8, by decide +kernel, rfl⟩
theorem bX8_less : BY yX8_less MX8_less 3 := ⟨q_c_X8_less, q_in_X8, by decide +kernel, rfl⟩
theorem bX8_unpack : BY yX8_unpack MX8_unpack 3 := ⟨q_c_X8_unpack, q_in_X8, by decide +kernel, rfl⟩
theorem bX9_init : BY yX9_init MX9_init 0 := ⟨q_c_X9_init, q_in_X9, by decide +kernel, rfl⟩
theorem bX9_canBe : BY yX9_canBe MX9_canBe 2 := ⟨q_c_X9_canBe, q_in_X9, by decide +kernel, rfl⟩
theorem bX9_clear : BY yX9_clear MX9_clear 2 := ⟨q_c_X9_clear, q_in_X9, by decide +kernel, rfl⟩
theorem bX9_copy : BY yX9_copy MX9_copy 1 := ⟨q_c_X9_copy, q_in_X9, by decide +kernel, rfl⟩
theorem bX9_prime : BY yX9_prime MX9_prime 0 := ⟨q_c_X9_prime, q_in_X9, by decide +kernel, rfl⟩
theorem bX9_size : BY yX9_size MX9_size 0 := ⟨q_c_X9_size, q_in_X9, by decide +kernel, rfl⟩
theorem bX9_order : BY yX9_order MX9_order 0 := ⟨q_c_X9_order, q_in_X9, by decide +kernel, rfl⟩
theorem bX9_knownFailing : BY yX9_knownFailing MX9_knownFailing 0 := ⟨q_c_X9_knownFailing, q_in_X9, by decide +kernel, rfl⟩
theorem bX9_learnFailing : BY yX9_learnFailing MX9_learnFailing 1 := ⟨q_c_X9_learnFailing, q_in_X9, by decide +kernel, rfl⟩
theorem bX9_hasElement : BY yX9_hasElement MX9_hasElement 1 := ⟨q_c_X9_hasElement, q_in_X9, by decide +kernel, rfl⟩
theorem bX9_hasCell : BY yX9_hasCell MX9_hasCell 3 := ⟨q_c_X9_hasCell, q_in_X9, by decide +kernel, rfl⟩
theorem bX9_cell : BY yX9_cell MX9_cell 3 := ⟨q_c_X9_cell, q_in_X9, by decide +kernel, rfl⟩
theorem bX9_put : BY yX9_put MX9_put 4 := ⟨q_c_X9_put, q_in_X9, by decide +kernel, rfl⟩
theorem bX9_putRow : BY yX9_putRow MX9_putRow 3 := ⟨q_c_X9_putRow, q_in_X9, by decide +kernel, rfl⟩
theorem bX9_base : BY yX9_base MX9_base 1 := ⟨q_c_X9_base, q_in_X9, by decide +kernel, rfl⟩
theorem bX9_times : BY yX9_times MX9_times 2 := ⟨q_c_X9_times, q_in_X9, by decide +kernel, rfl⟩
theorem bX9_commutes : BY yX9_commutes MX9_commutes 0 := ⟨q_c_X9_commutes, q_in_X9, by decide +kernel, rfl⟩
theorem bX9_turnFrom : BY yX9_turnFrom MX9_turnFrom 2 := ⟨q_c_X9_turnFrom, q_in_X9, by decide +kernel, rfl⟩
theorem bX9_turnedCell : BY yX9_turnedCell MX9_turnedCell 4 := ⟨q_c_X9_turnedCell, q_in_X9, by decide +kernel, rfl⟩
theorem bX10_init : BY yX10_init MX10_init 0 := ⟨q_c_X10_init, q_in_X10, by decide +kernel, rfl⟩
theorem bX10_feed : BY yX10_feed MX10_feed 5 := ⟨q_c_X10_feed, q_in_X10, by decide +kernel, rfl⟩
theorem bX10_end : BY yX10_end MX10_end 1 := ⟨q_c_X10_end, q_in_X10, by decide +kernel, rfl⟩
theorem bX10_text : BY yX10_text MX10_text 1 := ⟨q_c_X10_text, q_in_X10, by decide +kernel, rfl⟩
theorem bX10_cube : BY yX10_cube MX10_cube 4 := ⟨q_c_X10_cube, q_in_X10, by decide +kernel, rfl⟩
theorem bX10_of : BY yX10_of MX10_of 2 := ⟨q_c_X10_of, q_in_X10, by decide +kernel, rfl⟩
theorem bX10_product : BY yX10_product MX10_product 3 := ⟨q_c_X10_product, q_in_X10, by decide +kernel, rfl⟩
theorem bX10_look : BY yX10_look MX10_look 1 := ⟨q_c_X10_look, q_in_X10, by decide +kernel, rfl⟩
theorem bX11_init : BY yX11_init MX11_init 0 := ⟨q_c_X11_init, q_in_X11, by decide +kernel, rfl⟩
theorem bX11_copy : BY yX11_copy MX11_copy 0 := ⟨q_c_X11_copy, q_in_X11, by decide +kernel, rfl⟩
theorem bX11_sizes : BY yX11_sizes MX11_sizes 2 := ⟨q_c_X11_sizes, q_in_X11, by decide +kernel, rfl⟩
theorem bX11_digit : BY yX11_digit MX11_digit 2 := ⟨q_c_X11_digit, q_in_X11, by decide +kernel, rfl⟩
theorem bX11_plus : BY yX11_plus MX11_plus 2 := ⟨q_c_X11_plus, q_in_X11, by decide +kernel, rfl⟩
theorem bX11_minus : BY yX11_minus MX11_minus 2 := ⟨q_c_X11_minus, q_in_X11, by decide +kernel, rfl⟩
theorem bX11_lays : BY yX11_lays MX11_lays 0 := ⟨q_c_X11_lays, q_in_X11, by decide +kernel, rfl⟩
theorem bX11_fail : BY yX11_fail MX11_fail 0 := ⟨q_c_X11_fail, q_in_X11, by decide +kernel, rfl⟩
theorem bX11_unit : BY yX11_unit MX11_unit 0 := ⟨q_c_X11_unit, q_in_X11, by decide +kernel, rfl⟩
theorem bX11_turned : BY yX11_turned MX11_turned 1 := ⟨q_c_X11_turned, q_in_X11, by decide +kernel, rfl⟩
theorem bX11_isSame : BY yX11_isSame MX11_isSame 2 := ⟨q_c_X11_isSame, q_in_X11, by decide +kernel, rfl⟩
theorem bJ5_init_d00df : BY yJ5_init_d00df MJ5_init_d00df 1 := ⟨q_c_J5_init_d00df, q_in_J5, by decide +kernel, rfl⟩
theorem bJ5_length_8abf5 : BY yJ5_length_8abf5 MJ5_length_8abf5 0 := ⟨q_c_J5_length_8abf5, q_in_J5, by decide +kernel, rfl⟩
theorem bJ5_ensureCapacityInternal_d00df : BY yJ5_ensureCapacityInternal_d00df MJ5_ensureCapacityInternal_d00df 1 := ⟨q_c_J5_ensureCapacityInternal_d00df, q_in_J5, by decide +kernel, rfl⟩
theorem bJ5_newCapacity_0f7a4 : BY yJ5_newCapacity_0f7a4 MJ5_newCapacity_0f7a4 1 := ⟨q_c_J5_newCapacity_0f7a4, q_in_J5, by decide +kernel, rfl⟩
theorem bJ5_inflate_da8c8 : BY yJ5_inflate_da8c8 MJ5_inflate_da8c8 0 := ⟨q_c_J5_inflate_da8c8, q_in_J5, by decide +kernel, rfl⟩
theorem bJ5_append_cf1ce : BY yJ5_append_cf1ce MJ5_append_cf1ce 1 := ⟨q_c_J5_append_cf1ce, q_in_J5, by decide +kernel, rfl⟩
theorem bJ5_appendNull_278bc : BY yJ5_appendNull_278bc MJ5_appendNull_278bc 0 := ⟨q_c_J5_appendNull_278bc, q_in_J5, by decide +kernel, rfl⟩
theorem bJ5_append_c97b9 : BY yJ5_append_c97b9 MJ5_append_c97b9 1 := ⟨q_c_J5_append_c97b9, q_in_J5, by decide +kernel, rfl⟩
theorem bJ5_getValue_6d5f1 : BY yJ5_getValue_6d5f1 MJ5_getValue_6d5f1 0 := ⟨q_c_J5_getValue_6d5f1, q_in_J5, by decide +kernel, rfl⟩
theorem bJ5_isLatin1_aae02 : BY yJ5_isLatin1_aae02 MJ5_isLatin1_aae02 0 := ⟨q_c_J5_isLatin1_aae02, q_in_J5, by decide +kernel, rfl⟩
theorem bJ5_inflateIfNeededFor_a7421 : BY yJ5_inflateIfNeededFor_a7421 MJ5_inflateIfNeededFor_a7421 1 := ⟨q_c_J5_inflateIfNeededFor_a7421, q_in_J5, by decide +kernel, rfl⟩
theorem bJ5_putStringAt_47b60 : BY yJ5_putStringAt_47b60 MJ5_putStringAt_47b60 2 := ⟨q_c_J5_putStringAt_47b60, q_in_J5, by decide +kernel, rfl⟩
theorem bJ6_getChars_ba4f3 : BY yJ6_getChars_ba4f3 MJ6_getChars_ba4f3 3 := ⟨q_c_J6_getChars_ba4f3, q_in_J6, by decide +kernel, rfl⟩
theorem bJ6_stringSize_0f7a4 : BY yJ6_stringSize_0f7a4 MJ6_stringSize_0f7a4 1 := ⟨q_c_J6_stringSize_0f7a4, q_in_J6, by decide +kernel, rfl⟩
theorem bJ9_max_7cf53 : BY yJ9_max_7cf53 MJ9_max_7cf53 2 := ⟨q_c_J9_max_7cf53, q_in_J9, by decide +kernel, rfl⟩
theorem bJ9_min_7cf53 : BY yJ9_min_7cf53 MJ9_min_7cf53 2 := ⟨q_c_J9_min_7cf53, q_in_J9, by decide +kernel, rfl⟩
theorem bJ0_init_81219 : BY yJ0_init_81219 MJ0_init_81219 1 := ⟨q_c_J0_init_81219, q_in_J0, by decide +kernel, rfl⟩
theorem bJ0_length_8abf5 : BY yJ0_length_8abf5 MJ0_length_8abf5 0 := ⟨q_c_J0_length_8abf5, q_in_J0, by decide +kernel, rfl⟩
theorem bJ0_charAt_5068e : BY yJ0_charAt_5068e MJ0_charAt_5068e 1 := ⟨q_c_J0_charAt_5068e, q_in_J0, by decide +kernel, rfl⟩
theorem bJ0_getBytes_840e7 : BY yJ0_getBytes_840e7 MJ0_getBytes_840e7 3 := ⟨q_c_J0_getBytes_840e7, q_in_J0, by decide +kernel, rfl⟩
theorem bJ0_init_db425 : BY yJ0_init_db425 MJ0_init_db425 2 := ⟨q_c_J0_init_db425, q_in_J0, by decide +kernel, rfl⟩
theorem bJ0_coder_7d493 : BY yJ0_coder_7d493 MJ0_coder_7d493 0 := ⟨q_c_J0_coder_7d493, q_in_J0, by decide +kernel, rfl⟩
theorem bJ0_isLatin1_aae02 : BY yJ0_isLatin1_aae02 MJ0_isLatin1_aae02 0 := ⟨q_c_J0_isLatin1_aae02, q_in_J0, by decide +kernel, rfl⟩
theorem bJ0_checkIndex_df160 : BY yJ0_checkIndex_df160 MJ0_checkIndex_df160 2 := ⟨q_c_J0_checkIndex_df160, q_in_J0, by decide +kernel, rfl⟩
theorem bJ0_checkBoundsOffCount_cabcc : BY yJ0_checkBoundsOffCount_cabcc MJ0_checkBoundsOffCount_cabcc 3 := ⟨q_c_J0_checkBoundsOffCount_cabcc, q_in_J0, by decide +kernel, rfl⟩
theorem bJ0_checkBoundsBeginEnd_23922 : BY yJ0_checkBoundsBeginEnd_23922 MJ0_checkBoundsBeginEnd_23922 3 := ⟨q_c_J0_checkBoundsBeginEnd_23922, q_in_J0, by decide +kernel, rfl⟩
theorem bJ4_init_da8c8 : BY yJ4_init_da8c8 MJ4_init_da8c8 0 := ⟨q_c_J4_init_da8c8, q_in_J4, by decide +kernel, rfl⟩
theorem bJ4_append_15ec4 : BY yJ4_append_15ec4 MJ4_append_15ec4 1 := ⟨q_c_J4_append_15ec4, q_in_J4, by decide +kernel, rfl⟩
theorem bJ4_append_bf812 : BY yJ4_append_bf812 MJ4_append_bf812 1 := ⟨q_c_J4_append_bf812, q_in_J4, by decide +kernel, rfl⟩
theorem bJ4_toString_0e30d : BY yJ4_toString_0e30d MJ4_toString_0e30d 0 := ⟨q_c_J4_toString_0e30d, q_in_J4, by decide +kernel, rfl⟩
theorem bJ4_length_8abf5 : BY yJ4_length_8abf5 MJ4_length_8abf5 0 := ⟨q_c_J4_length_8abf5, q_in_J4, by decide +kernel, rfl⟩
theorem bJ1_charAt_3b067 : BY yJ1_charAt_3b067 MJ1_charAt_3b067 2 := ⟨q_c_J1_charAt_3b067, q_in_J1, by decide +kernel, rfl⟩
theorem bJ1_inflate_0e8fd : BY yJ1_inflate_0e8fd MJ1_inflate_0e8fd 5 := ⟨q_c_J1_inflate_0e8fd, q_in_J1, by decide +kernel, rfl⟩
theorem bJ2_newBytesFor_77867 : BY yJ2_newBytesFor_77867 MJ2_newBytesFor_77867 1 := ⟨q_c_J2_newBytesFor_77867, q_in_J2, by decide +kernel, rfl⟩
theorem bJ2_newBytesLength_0f7a4 : BY yJ2_newBytesLength_0f7a4 MJ2_newBytesLength_0f7a4 1 := ⟨q_c_J2_newBytesLength_0f7a4, q_in_J2, by decide +kernel, rfl⟩
theorem bJ2_putChar_b72d1 : BY yJ2_putChar_b72d1 MJ2_putChar_b72d1 3 := ⟨q_c_J2_putChar_b72d1, q_in_J2, by decide +kernel, rfl⟩
theorem bJ2_getChar_3b067 : BY yJ2_getChar_3b067 MJ2_getChar_3b067 2 := ⟨q_c_J2_getChar_3b067, q_in_J2, by decide +kernel, rfl⟩
theorem bJ2_length_9d52b : BY yJ2_length_9d52b MJ2_length_9d52b 1 := ⟨q_c_J2_length_9d52b, q_in_J2, by decide +kernel, rfl⟩
theorem bJ2_coderFromArrayLen_85cad : BY yJ2_coderFromArrayLen_85cad MJ2_coderFromArrayLen_85cad 2 := ⟨q_c_J2_coderFromArrayLen_85cad, q_in_J2, by decide +kernel, rfl⟩
theorem bJ2_compress_39247 : BY yJ2_compress_39247 MJ2_compress_39247 3 := ⟨q_c_J2_compress_39247, q_in_J2, by decide +kernel, rfl⟩
theorem bJ2_compress_5af95 : BY yJ2_compress_5af95 MJ2_compress_5af95 5 := ⟨q_c_J2_compress_5af95, q_in_J2, by decide +kernel, rfl⟩
theorem bJ2_getChars_46870 : BY yJ2_getChars_46870 MJ2_getChars_46870 4 := ⟨q_c_J2_getChars_46870, q_in_J2, by decide +kernel, rfl⟩
theorem bJ2_putCharsAt_cd4e5 : BY yJ2_putCharsAt_cd4e5 MJ2_putCharsAt_cd4e5 6 := ⟨q_c_J2_putCharsAt_cd4e5, q_in_J2, by decide +kernel, rfl⟩
theorem bJ2_charAt_3b067 : BY yJ2_charAt_3b067 MJ2_charAt_3b067 2 := ⟨q_c_J2_charAt_3b067, q_in_J2, by decide +kernel, rfl⟩
theorem bJ2_inflate_0e8fd : BY yJ2_inflate_0e8fd MJ2_inflate_0e8fd 5 := ⟨q_c_J2_inflate_0e8fd, q_in_J2, by decide +kernel, rfl⟩
theorem bJ2_getChars_ba4f3 : BY yJ2_getChars_ba4f3 MJ2_getChars_ba4f3 3 := ⟨q_c_J2_getChars_ba4f3, q_in_J2, by decide +kernel, rfl⟩
theorem bJ2_checkIndex_2214a : BY yJ2_checkIndex_2214a MJ2_checkIndex_2214a 2 := ⟨q_c_J2_checkIndex_2214a, q_in_J2, by decide +kernel, rfl⟩
theorem bJ2_checkBoundsBeginEnd_d044e : BY yJ2_checkBoundsBeginEnd_d044e MJ2_checkBoundsBeginEnd_d044e 3 := ⟨q_c_J2_checkBoundsBeginEnd_d044e, q_in_J2, by decide +kernel, rfl⟩
theorem bJ2_checkBoundsOffCount_d044e : BY yJ2_checkBoundsOffCount_d044e MJ2_checkBoundsOffCount_d044e 3 := ⟨q_c_J2_checkBoundsOffCount_d044e, q_in_J2, by decide +kernel, rfl⟩
theorem bJ7_copyOf_9075b : BY yJ7_copyOf_9075b MJ7_copyOf_9075b 2 := ⟨q_c_J7_copyOf_9075b, q_in_J7, by decide +kernel, rfl⟩
theorem bJ7_checkLength_df160 : BY yJ7_checkLength_df160 MJ7_checkLength_df160 2 := ⟨q_c_J7_checkLength_df160, q_in_J7, by decide +kernel, rfl⟩
theorem bJ7_copyOfRange_39247 : BY yJ7_copyOfRange_39247 MJ7_copyOfRange_39247 3 := ⟨q_c_J7_copyOfRange_39247, q_in_J7, by decide +kernel, rfl⟩
theorem bJ7_copyOfRangeByte_39247 : BY yJ7_copyOfRangeByte_39247 MJ7_copyOfRangeByte_39247 3 := ⟨q_c_J7_copyOfRangeByte_39247, q_in_J7, by decide +kernel, rfl⟩
theorem bJ8_newLength_cabcc : BY yJ8_newLength_cabcc MJ8_newLength_cabcc 3 := ⟨q_c_J8_newLength_cabcc, q_in_J8, by decide +kernel, rfl⟩
theorem bJ8_hugeLength_7cf53 : BY yJ8_hugeLength_7cf53 MJ8_hugeLength_7cf53 2 := ⟨q_c_J8_hugeLength_7cf53, q_in_J8, by decide +kernel, rfl⟩
theorem bJ3_checkIndex_8e157 : BY yJ3_checkIndex_8e157 MJ3_checkIndex_8e157 3 := ⟨q_c_J3_checkIndex_8e157, q_in_J3, by decide +kernel, rfl⟩
theorem bJ3_checkFromToIndex_8c36e : BY yJ3_checkFromToIndex_8c36e MJ3_checkFromToIndex_8c36e 4 := ⟨q_c_J3_checkFromToIndex_8c36e, q_in_J3, by decide +kernel, rfl⟩
theorem bJ3_checkFromIndexSize_8c36e : BY yJ3_checkFromIndexSize_8c36e MJ3_checkFromIndexSize_8c36e 4 := ⟨q_c_J3_checkFromIndexSize_8c36e, q_in_J3, by decide +kernel, rfl⟩
theorem bL_cell : BY yL_cell ML_cell 2 := ⟨q_c_L_cell, q_in_L, by decide +kernel, rfl⟩
theorem bL_between : BY yL_between ML_between 3 := ⟨q_c_L_between, q_in_L, by decide +kernel, rfl⟩
theorem bL_say : BY yL_say ML_say 2 := ⟨q_c_L_say, q_in_L, by decide +kernel, rfl⟩
theorem bL_field : BY yL_field ML_field 3 := ⟨q_c_L_field, q_in_L, by decide +kernel, rfl⟩
theorem bL_SIZES : BY yL_SIZES ML_SIZES 0 := ⟨q_c_L_SIZES, q_in_L, by decide +kernel, rfl⟩
theorem bL_goodField : BY yL_goodField ML_goodField 2 := ⟨q_c_L_goodField, q_in_L, by decide +kernel, rfl⟩
theorem bL_world : BY yL_world ML_world 5 := ⟨q_c_L_world, q_in_L, by decide +kernel, rfl⟩
theorem bL_power : BY yL_power ML_power 2 := ⟨q_c_L_power, q_in_L, by decide +kernel, rfl⟩
theorem bL_raised : BY yL_raised ML_raised 3 := ⟨q_c_L_raised, q_in_L, by decide +kernel, rfl⟩
