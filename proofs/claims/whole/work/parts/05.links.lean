abbrev MX0_init : MI := (RX0, cX0_init, 1, none, 4, 78, 5850, true)
abbrev MX0_start : MI := (RX0, cX0_start, 4, none, 5, 0, 0, false)
abbrev MX0_rank : MI := (RX0, cX0_rank, 1, (Option.some FieldType.int), 4, 0, 0, false)
abbrev MX0_add : MI := (RX0, cX0_add, 3, none, 4, 0, 0, false)
abbrev MX0_addElement : MI := (RX0, cX0_addElement, 4, none, 5, 0, 0, false)
abbrev MX0_settle : MI := (RX0, cX0_settle, 3, (Option.some FieldType.boolean), 5, 0, 0, false)
abbrev MX0_reduce : MI := (RX0, cX0_reduce, 5, none, 4, 0, 0, false)
abbrev MX0_lead : MI := (RX0, cX0_lead, 6, none, 4, 0, 0, false)
abbrev MX1_init : MI := (RX1, cX1_init, 2, none, 4, 3, 17, true)
abbrev MX1_rankOf : MI := (RX1, cX1_rankOf, 7, (Option.some FieldType.int), 6, 0, 0, false)
abbrev MX1_entry : MI := (RX1, cX1_entry, 8, (Option.some FieldType.int), 5, 0, 0, false)
abbrev MX1_countRanks : MI := (RX1, cX1_countRanks, 7, none, 7, 0, 0, false)
abbrev MX1_leastSingular : MI := (RX1, cX1_leastSingular, 5, (Option.some FieldType.int), 7, 0, 0, false)
abbrev MX1_howManyOfRank : MI := (RX1, cX1_howManyOfRank, 4, (Option.some FieldType.int), 8, 0, 0, false)
abbrev MX1_planar : MI := (RX1, cX1_planar, 2, (Option.some FieldType.int), 8, 0, 0, false)
abbrev MX1_whatParts : MI := (RX1, cX1_whatParts, 5, (Option.some FieldType.int), 8, 0, 0, false)
abbrev MX1_derivations : MI := (RX1, cX1_derivations, 3, (Option.some FieldType.int), 7, 0, 0, false)
abbrev MX1_triples : MI := (RX1, cX1_triples, 3, (Option.some FieldType.int), 7, 0, 0, false)
abbrev MX1_demandDerivative : MI := (RX1, cX1_demandDerivative, 9, none, 6, 0, 0, false)
abbrev MX2_init : MI := (RX2, cX2_init, 2, none, 5, 14, 288, true)
abbrev MX2_count : MI := (RX2, cX2_count, 5, (Option.some FieldType.int), 10, 0, 0, false)
abbrev MX2_hasWorld : MI := (RX2, cX2_hasWorld, 5, (Option.some FieldType.boolean), 10, 0, 0, false)
abbrev MX2_bring : MI := (RX2, cX2_bring, 6, none, 8, 0, 0, false)
abbrev MX2_kindOf : MI := (RX2, cX2_kindOf, 2, (Option.some FieldType.int), 4, 0, 0, false)
abbrev MX2_ready : MI := (RX2, cX2_ready, 9, none, 9, 0, 0, false)
abbrev MX2_power : MI := (RX2, cX2_power, 4, (Option.some FieldType.int), 4, 0, 0, false)
abbrev MX2_isFailedEarly : MI := (RX2, cX2_isFailedEarly, 3, (Option.some FieldType.boolean), 6, 0, 0, false)
abbrev MX2_note : MI := (RX2, cX2_note, 4, none, 8, 0, 0, false)
abbrev MX2_fill : MI := (RX2, cX2_fill, 8, none, 7, 0, 0, false)
abbrev MX3_init : MI := (RX3, cX3_init, 2, none, 4, 0, 0, true)
abbrev MX3_hasPlace : MI := (RX3, cX3_hasPlace, 3, (Option.some FieldType.boolean), 6, 0, 0, false)
abbrev MX3_last : MI := (RX3, cX3_last, 1, (Option.some FieldType.int), 5, 0, 0, false)
abbrev MX3_isOn : MI := (RX3, cX3_isOn, 6, (Option.some FieldType.boolean), 6, 0, 0, false)
abbrev MX3_height : MI := (RX3, cX3_height, 5, (Option.some FieldType.int), 5, 0, 0, false)
abbrev MX3_through : MI := (RX3, cX3_through, 5, (Option.some FieldType.int), 6, 0, 0, false)
abbrev MX3_join : MI := (RX3, cX3_join, 10, (Option.some FieldType.int), 8, 0, 0, false)
abbrev MX3_meet : MI := (RX3, cX3_meet, 11, (Option.some FieldType.int), 8, 0, 0, false)
abbrev MX3_isTriangle : MI := (RX3, cX3_isTriangle, 5, (Option.some FieldType.boolean), 9, 0, 0, false)
abbrev MX3_diagonals : MI := (RX3, cX3_diagonals, 9, (Option.some FieldType.int), 10, 0, 0, false)
abbrev MX4_init : MI := (RX4, cX4_init, 1, none, 5, 13, 1023, true)
abbrev MX4_hasRoom : MI := (RX4, cX4_hasRoom, 1, (Option.some FieldType.boolean), 4, 0, 0, false)
abbrev MX4_takeNumber : MI := (RX4, cX4_takeNumber, 3, none, 4, 0, 0, false)
abbrev MX4_length : MI := (RX4, cX4_length, 1, (Option.some FieldType.int), 4, 0, 0, false)
abbrev MX4_cutAt : MI := (RX4, cX4_cutAt, 2, (Option.some FieldType.boolean), 4, 0, 0, false)
abbrev MX4_forget : MI := (RX4, cX4_forget, 1, none, 4, 0, 0, false)
abbrev MX4_faultKind : MI := (RX4, cX4_faultKind, 1, (Option.some FieldType.int), 4, 0, 0, false)
abbrev MX4_faultPlace : MI := (RX4, cX4_faultPlace, 1, (Option.some FieldType.int), 4, 0, 0, false)
abbrev MX4_told : MI := (RX4, cX4_told, 1, (Option.some (FieldType.object "NeedNotJoin$World")), 4, 0, 0, false)
abbrev MX4_read : MI := (RX4, cX4_read, 2, (Option.some FieldType.boolean), 10, 0, 0, false)
abbrev MX4_fail : MI := (RX4, cX4_fail, 2, (Option.some FieldType.boolean), 4, 0, 0, false)
abbrev MX4_statement : MI := (RX4, cX4_statement, 7, none, 9, 0, 0, false)
abbrev MX4_expect : MI := (RX4, cX4_expect, 2, (Option.some FieldType.boolean), 5, 0, 0, false)
abbrev MX4_numberBelow : MI := (RX4, cX4_numberBelow, 2, (Option.some FieldType.boolean), 7, 0, 0, false)
abbrev MX4_order : MI := (RX4, cX4_order, 2, (Option.some FieldType.boolean), 8, 0, 0, false)
abbrev MX4_polynomials : MI := (RX4, cX4_polynomials, 2, (Option.some FieldType.boolean), 8, 0, 0, false)
abbrev MX4_fillPolynomials : MI := (RX4, cX4_fillPolynomials, 8, none, 7, 0, 0, false)
abbrev MX4_twist : MI := (RX4, cX4_twist, 3, (Option.some FieldType.boolean), 8, 0, 0, false)
abbrev MX4_fillTwist : MI := (RX4, cX4_fillTwist, 10, none, 7, 0, 0, false)
abbrev MX4_raise : MI := (RX4, cX4_raise, 7, (Option.some FieldType.int), 5, 0, 0, false)
abbrev MX4_row : MI := (RX4, cX4_row, 4, (Option.some FieldType.boolean), 8, 0, 0, false)
abbrev MX4_turning : MI := (RX4, cX4_turning, 1, (Option.some FieldType.boolean), 8, 0, 0, false)
abbrev MX4_step : MI := (RX4, cX4_step, 1, none, 6, 0, 0, false)
abbrev MX4_stepNumber : MI := (RX4, cX4_stepNumber, 1, none, 5, 0, 0, false)
abbrev MX4_isWord : MI := (RX4, cX4_isWord, 3, (Option.some FieldType.boolean), 8, 0, 0, false)
abbrev MX4_isLetter : MI := (RX4, cX4_isLetter, 1, (Option.some FieldType.boolean), 4, 0, 0, false)
abbrev MX4_isDigit : MI := (RX4, cX4_isDigit, 1, (Option.some FieldType.boolean), 4, 0, 0, false)
abbrev MX5_init : MI := (RX5, cX5_init, 1, none, 4, 13, 1663, true)
abbrev MX5_countSame : MI := (RX5, cX5_countSame, 4, (Option.some FieldType.int), 22, 0, 0, false)
abbrev MX5_countIsotopes : MI := (RX5, cX5_countIsotopes, 6, (Option.some FieldType.int), 22, 0, 0, false)
abbrev MX5_prepare : MI := (RX5, cX5_prepare, 6, (Option.some FieldType.boolean), 8, 0, 0, false)
abbrev MX5_chooseBasis : MI := (RX5, cX5_chooseBasis, 3, none, 7, 0, 0, false)
abbrev MX5_chooseProduct : MI := (RX5, cX5_chooseProduct, 6, (Option.some FieldType.boolean), 6, 0, 0, false)
abbrev MX5_chooseBase : MI := (RX5, cX5_chooseBase, 5, none, 6, 0, 0, false)
abbrev MX5_enlarge : MI := (RX5, cX5_enlarge, 6, none, 5, 0, 0, false)
abbrev MX5_findPairs : MI := (RX5, cX5_findPairs, 6, none, 5, 0, 0, false)
abbrev MX5_timesThere : MI := (RX5, cX5_timesThere, 3, (Option.some FieldType.int), 4, 0, 0, false)
abbrev MX5_extend : MI := (RX5, cX5_extend, 3, none, 21, 0, 0, false)
abbrev MX5_attempt : MI := (RX5, cX5_attempt, 5, none, 6, 0, 0, false)
abbrev MX5_agrees : MI := (RX5, cX5_agrees, 5, (Option.some FieldType.boolean), 5, 0, 0, false)
abbrev MX6_init : MI := (RX6, cX6_init, 2, none, 5, 82, 3597, true)
abbrev MX6_copy : MI := (RX6, cX6_copy, 3, none, 5, 0, 0, false)
abbrev MX6_world : MI := (RX6, cX6_world, 2, (Option.some (FieldType.object "NeedNotJoin$World")), 4, 0, 0, false)
abbrev MX6_tell : MI := (RX6, cX6_tell, 3, none, 5, 0, 0, false)
abbrev MX6_dropOldest : MI := (RX6, cX6_dropOldest, 3, none, 4, 0, 0, false)
abbrev MX6_goBack : MI := (RX6, cX6_goBack, 1, (Option.some FieldType.int), 5, 0, 0, false)
abbrev MX6_goForth : MI := (RX6, cX6_goForth, 2, (Option.some FieldType.int), 5, 0, 0, false)
abbrev MX6_exchange : MI := (RX6, cX6_exchange, 4, (Option.some FieldType.int), 4, 0, 0, false)
abbrev MX6_canGoBack : MI := (RX6, cX6_canGoBack, 1, (Option.some FieldType.int), 4, 0, 0, false)
abbrev MX6_canGoForth : MI := (RX6, cX6_canGoForth, 1, (Option.some FieldType.int), 4, 0, 0, false)
abbrev MX6_tellImage : MI := (RX6, cX6_tellImage, 4, (Option.some FieldType.boolean), 4, 0, 0, false)
abbrev MX6_imageAt : MI := (RX6, cX6_imageAt, 2, (Option.some FieldType.int), 4, 0, 0, false)
abbrev MX7_init : MI := (RX7, cX7_init, 3, none, 4, 5, 621, true)
abbrev MX7_divides : MI := (RX7, cX7_divides, 2, (Option.some FieldType.boolean), 9, 0, 0, false)
abbrev MX7_failing : MI := (RX7, cX7_failing, 3, (Option.some FieldType.int), 8, 0, 0, false)
abbrev MX7_leastToNought : MI := (RX7, cX7_leastToNought, 4, (Option.some FieldType.int), 5, 0, 0, false)
abbrev MX7_unit : MI := (RX7, cX7_unit, 3, (Option.some FieldType.int), 7, 0, 0, false)
abbrev MX7_isUnit : MI := (RX7, cX7_isUnit, 5, (Option.some FieldType.boolean), 6, 0, 0, false)
abbrev MX7_divide : MI := (RX7, cX7_divide, 6, (Option.some FieldType.int), 7, 0, 0, false)
abbrev MX7_tabulate : MI := (RX7, cX7_tabulate, 5, none, 6, 0, 0, false)
abbrev MX7_makeUnital : MI := (RX7, cX7_makeUnital, 8, none, 8, 0, 0, false)
abbrev MX7_difference : MI := (RX7, cX7_difference, 10, (Option.some FieldType.int), 6, 0, 0, false)
abbrev MX7_firstUnjoined : MI := (RX7, cX7_firstUnjoined, 6, (Option.some FieldType.int), 7, 0, 0, false)
abbrev MX7_findDifferences : MI := (RX7, cX7_findDifferences, 6, none, 7, 0, 0, false)
abbrev MX7_nucleus : MI := (RX7, cX7_nucleus, 3, (Option.some FieldType.int), 8, 0, 0, false)
abbrev MX7_centre : MI := (RX7, cX7_centre, 2, (Option.some FieldType.int), 8, 0, 0, false)
abbrev MX7_demandJoining : MI := (RX7, cX7_demandJoining, 9, none, 7, 0, 0, false)
abbrev MX7_demandNought : MI := (RX7, cX7_demandNought, 9, none, 6, 0, 0, false)
abbrev MX7_demandCommuting : MI := (RX7, cX7_demandCommuting, 6, none, 6, 0, 0, false)
abbrev MX7_idempotents : MI := (RX7, cX7_idempotents, 4, (Option.some FieldType.int), 5, 0, 0, false)
abbrev MX7_squares : MI := (RX7, cX7_squares, 4, (Option.some FieldType.int), 5, 0, 0, false)
abbrev MX7_unlikePowers : MI := (RX7, cX7_unlikePowers, 6, (Option.some FieldType.int), 5, 0, 0, false)
abbrev MX7_forgetSeen : MI := (RX7, cX7_forgetSeen, 2, none, 4, 0, 0, false)
abbrev MX7_isFirstSeen : MI := (RX7, cX7_isFirstSeen, 2, (Option.some FieldType.boolean), 4, 0, 0, false)
abbrev MX7_closure : MI := (RX7, cX7_closure, 6, (Option.some FieldType.int), 7, 0, 0, false)
abbrev MX7_gather : MI := (RX7, cX7_gather, 3, none, 6, 0, 0, false)
abbrev MX7_whatIsNotCarried : MI := (RX7, cX7_whatIsNotCarried, 7, (Option.some FieldType.int), 8, 0, 0, false)
abbrev MX7_firstNotCarried : MI := (RX7, cX7_firstNotCarried, 9, (Option.some FieldType.int), 7, 0, 0, false)
abbrev MX7_imageOf : MI := (RX7, cX7_imageOf, 5, (Option.some FieldType.int), 6, 0, 0, false)
abbrev MX8_isPrime : MI := (RX8, cX8_isPrime, 1, (Option.some FieldType.boolean), 4, 0, 0, false)
abbrev MX8_power : MI := (RX8, cX8_power, 4, (Option.some FieldType.int), 4, 0, 0, false)
abbrev MX8_plus : MI := (RX8, cX8_plus, 8, (Option.some FieldType.int), 4, 0, 0, false)
abbrev MX8_manifold : MI := (RX8, cX8_manifold, 7, (Option.some FieldType.int), 4, 0, 0, false)
abbrev MX8_less : MI := (RX8, cX8_less, 3, (Option.some FieldType.int), 5, 0, 0, false)
abbrev MX8_unpack : MI := (RX8, cX8_unpack, 5, none, 4, 0, 0, false)
abbrev MX8_spread : MI := (RX8, cX8_spread, 8, none, 5, 0, 0, false)
abbrev MX9_init : MI := (RX9, cX9_init, 1, none, 4, 2, 130, true)
abbrev MX9_canBe : MI := (RX9, cX9_canBe, 2, (Option.some FieldType.boolean), 5, 0, 0, false)
abbrev MX9_clear : MI := (RX9, cX9_clear, 4, none, 6, 0, 0, false)
abbrev MX9_copy : MI := (RX9, cX9_copy, 2, none, 4, 0, 0, false)
abbrev MX9_prime : MI := (RX9, cX9_prime, 1, (Option.some FieldType.int), 4, 0, 0, false)
abbrev MX9_size : MI := (RX9, cX9_size, 1, (Option.some FieldType.int), 4, 0, 0, false)
abbrev MX9_order : MI := (RX9, cX9_order, 1, (Option.some FieldType.int), 4, 0, 0, false)
abbrev MX9_knownFailing : MI := (RX9, cX9_knownFailing, 1, (Option.some FieldType.int), 4, 0, 0, false)
abbrev MX9_learnFailing : MI := (RX9, cX9_learnFailing, 2, none, 4, 0, 0, false)
abbrev MX9_hasElement : MI := (RX9, cX9_hasElement, 2, (Option.some FieldType.boolean), 4, 0, 0, false)
abbrev MX9_hasCell : MI := (RX9, cX9_hasCell, 4, (Option.some FieldType.boolean), 4, 0, 0, false)
abbrev MX9_cell : MI := (RX9, cX9_cell, 4, (Option.some FieldType.int), 4, 0, 0, false)
abbrev MX9_put : MI := (RX9, cX9_put, 5, none, 5, 0, 0, false)
abbrev MX9_putRow : MI := (RX9, cX9_putRow, 6, none, 6, 0, 0, false)
abbrev MX9_base : MI := (RX9, cX9_base, 2, (Option.some FieldType.int), 5, 0, 0, false)
abbrev MX9_times : MI := (RX9, cX9_times, 10, (Option.some FieldType.int), 4, 0, 0, false)
abbrev MX9_commutes : MI := (RX9, cX9_commutes, 4, (Option.some FieldType.boolean), 5, 0, 0, false)
abbrev MX9_turnFrom : MI := (RX9, cX9_turnFrom, 6, none, 7, 0, 0, false)
abbrev MX9_turnedCell : MI := (RX9, cX9_turnedCell, 5, (Option.some FieldType.int), 5, 0, 0, false)
abbrev MX10_init : MI := (RX10, cX10_init, 1, none, 6, 302, 16861, true)
abbrev MX10_feed : MI := (RX10, cX10_feed, 6, (Option.some FieldType.int), 5, 0, 0, false)
abbrev MX10_end : MI := (RX10, cX10_end, 2, (Option.some FieldType.boolean), 5, 0, 0, false)
abbrev MX10_text : MI := (RX10, cX10_text, 3, (Option.some FieldType.int), 11, 0, 0, false)
abbrev MX10_fault : MI := (RX10, cX10_fault, 2, (Option.some FieldType.int), 5, 0, 0, false)
abbrev MX10_digit : MI := (RX10, cX10_digit, 7, (Option.some FieldType.boolean), 6, 0, 0, false)
abbrev MX10_cube : MI := (RX10, cX10_cube, 6, (Option.some FieldType.int), 5, 0, 0, false)
abbrev MX10_of : MI := (RX10, cX10_of, 4, (Option.some FieldType.int), 10, 0, 0, false)
abbrev MX10_product : MI := (RX10, cX10_product, 5, (Option.some FieldType.int), 5, 0, 0, false)
abbrev MX10_quotient : MI := (RX10, cX10_quotient, 6, (Option.some FieldType.int), 8, 0, 0, false)
abbrev MX10_ranks : MI := (RX10, cX10_ranks, 5, (Option.some FieldType.int), 9, 0, 0, false)
abbrev MX10_powers : MI := (RX10, cX10_powers, 4, (Option.some FieldType.int), 6, 0, 0, false)
abbrev MX10_span : MI := (RX10, cX10_span, 5, (Option.some FieldType.int), 8, 0, 0, false)
abbrev MX10_fano : MI := (RX10, cX10_fano, 7, (Option.some FieldType.int), 11, 0, 0, false)
abbrev MX10_parted : MI := (RX10, cX10_parted, 5, (Option.some FieldType.int), 9, 0, 0, false)
abbrev MX10_turn : MI := (RX10, cX10_turn, 5, (Option.some FieldType.boolean), 8, 0, 0, false)
abbrev MX10_unital : MI := (RX10, cX10_unital, 6, (Option.some FieldType.int), 10, 0, 0, false)
abbrev MX10_undo : MI := (RX10, cX10_undo, 2, (Option.some FieldType.int), 6, 0, 0, false)
abbrev MX10_map : MI := (RX10, cX10_map, 4, (Option.some FieldType.boolean), 5, 0, 0, false)
abbrev MX10_carry : MI := (RX10, cX10_carry, 5, (Option.some FieldType.int), 9, 0, 0, false)
abbrev MX10_same : MI := (RX10, cX10_same, 5, (Option.some FieldType.int), 23, 0, 0, false)
abbrev MX10_isotopes : MI := (RX10, cX10_isotopes, 5, (Option.some FieldType.int), 23, 0, 0, false)
abbrev MX10_plane : MI := (RX10, cX10_plane, 6, (Option.some FieldType.int), 10, 0, 0, false)
abbrev MX10_list : MI := (RX10, cX10_list, 4, (Option.some FieldType.int), 11, 0, 0, false)
abbrev MX10_take : MI := (RX10, cX10_take, 5, (Option.some FieldType.boolean), 11, 0, 0, false)
abbrev MX10_image : MI := (RX10, cX10_image, 2, (Option.some FieldType.boolean), 6, 0, 0, false)
abbrev MX10_look : MI := (RX10, cX10_look, 2, (Option.some FieldType.int), 5, 0, 0, false)
abbrev MX10_alike : MI := (RX10, cX10_alike, 2, (Option.some FieldType.boolean), 5, 0, 0, false)
abbrev MX11_init : MI := (RX11, cX11_init, 2, none, 4, 106, 19688, true)
abbrev MX11_isIn : MI := (RX11, cX11_isIn, 3, (Option.some FieldType.boolean), 4, 0, 0, false)
abbrev MX11_isWorld : MI := (RX11, cX11_isWorld, 1, (Option.some FieldType.boolean), 5, 0, 0, false)
abbrev MX11_power : MI := (RX11, cX11_power, 4, (Option.some FieldType.int), 4, 0, 0, false)
abbrev MX11_orderOf : MI := (RX11, cX11_orderOf, 2, (Option.some FieldType.int), 5, 0, 0, false)
abbrev MX11_laysOut : MI := (RX11, cX11_laysOut, 3, none, 5, 0, 0, false)
abbrev MX11_digits : MI := (RX11, cX11_digits, 5, none, 4, 0, 0, false)
abbrev MX11_element : MI := (RX11, cX11_element, 4, (Option.some FieldType.int), 4, 0, 0, false)
abbrev MX11_timesBy : MI := (RX11, cX11_timesBy, 7, (Option.some FieldType.int), 5, 0, 0, false)
abbrev MX11_times : MI := (RX11, cX11_times, 3, (Option.some FieldType.int), 6, 0, 0, false)
abbrev MX11_plus : MI := (RX11, cX11_plus, 5, (Option.some FieldType.int), 5, 0, 0, false)
abbrev MX11_minus : MI := (RX11, cX11_minus, 3, (Option.some FieldType.int), 6, 0, 0, false)
abbrev MX11_base : MI := (RX11, cX11_base, 2, (Option.some FieldType.int), 5, 0, 0, false)
abbrev MX11_copies : MI := (RX11, cX11_copies, 4, none, 4, 0, 0, false)
abbrev MX11_pushes : MI := (RX11, cX11_pushes, 5, none, 5, 0, 0, false)
abbrev MX11_acts : MI := (RX11, cX11_acts, 2, none, 6, 0, 0, false)
abbrev MX11_undo : MI := (RX11, cX11_undo, 6, (Option.some FieldType.int), 6, 0, 0, false)
abbrev MX11_becomes : MI := (RX11, cX11_becomes, 4, none, 7, 0, 0, false)
abbrev MX11_digit : MI := (RX11, cX11_digit, 7, (Option.some FieldType.boolean), 7, 0, 0, false)
abbrev MX11_cube : MI := (RX11, cX11_cube, 6, (Option.some FieldType.int), 6, 0, 0, false)
abbrev MX11_turns : MI := (RX11, cX11_turns, 7, none, 4, 0, 0, false)
abbrev MX11_turn : MI := (RX11, cX11_turn, 4, (Option.some FieldType.boolean), 8, 0, 0, false)
abbrev MX11_feed : MI := (RX11, cX11_feed, 8, (Option.some FieldType.int), 4, 0, 0, false)
abbrev MX11_end : MI := (RX11, cX11_end, 2, (Option.some FieldType.boolean), 5, 0, 0, false)
abbrev MX11_see : MI := (RX11, cX11_see, 2, (Option.some FieldType.int), 4, 0, 0, false)
abbrev MX11_isLetter : MI := (RX11, cX11_isLetter, 1, (Option.some FieldType.boolean), 5, 0, 0, false)
abbrev MX11_isDigit : MI := (RX11, cX11_isDigit, 1, (Option.some FieldType.boolean), 5, 0, 0, false)
abbrev MX11_is : MI := (RX11, cX11_is, 4, (Option.some FieldType.boolean), 8, 0, 0, false)
abbrev MX11_word : MI := (RX11, cX11_word, 1, (Option.some FieldType.int), 9, 0, 0, false)
abbrev MX11_next0 : MI := (RX11, cX11_next0, 2, none, 10, 0, 0, false)
abbrev MX11_bad : MI := (RX11, cX11_bad, 2, (Option.some FieldType.boolean), 4, 0, 0, false)
abbrev MX11_number : MI := (RX11, cX11_number, 3, (Option.some FieldType.boolean), 11, 0, 0, false)
abbrev MX11_order : MI := (RX11, cX11_order, 1, (Option.some FieldType.boolean), 12, 0, 0, false)
abbrev MX11_numbers : MI := (RX11, cX11_numbers, 5, (Option.some FieldType.boolean), 12, 0, 0, false)
abbrev MX11_fields : MI := (RX11, cX11_fields, 5, none, 5, 0, 0, false)
abbrev MX11_powered : MI := (RX11, cX11_powered, 6, (Option.some FieldType.int), 6, 0, 0, false)
abbrev MX11_twists : MI := (RX11, cX11_twists, 11, none, 7, 0, 0, false)
abbrev MX11_statement : MI := (RX11, cX11_statement, 3, (Option.some FieldType.boolean), 13, 0, 0, false)
abbrev MX11_aStatement : MI := (RX11, cX11_aStatement, 2, (Option.some FieldType.boolean), 14, 0, 0, false)
abbrev MX11_text : MI := (RX11, cX11_text, 4, (Option.some FieldType.int), 15, 0, 0, false)
abbrev MX11_fault : MI := (RX11, cX11_fault, 2, (Option.some FieldType.int), 4, 0, 0, false)
abbrev MX11_rank : MI := (RX11, cX11_rank, 9, (Option.some FieldType.int), 4, 0, 0, false)
abbrev MX11_laysMatrix : MI := (RX11, cX11_laysMatrix, 7, none, 5, 0, 0, false)
abbrev MX11_rankOf : MI := (RX11, cX11_rankOf, 3, (Option.some FieldType.int), 6, 0, 0, false)
abbrev MX11_firstFail : MI := (RX11, cX11_firstFail, 3, (Option.some FieldType.int), 7, 0, 0, false)
abbrev MX11_unit : MI := (RX11, cX11_unit, 4, (Option.some FieldType.int), 7, 0, 0, false)
abbrev MX11_commutes : MI := (RX11, cX11_commutes, 4, (Option.some FieldType.boolean), 4, 0, 0, false)
abbrev MX11_firstApart : MI := (RX11, cX11_firstApart, 4, (Option.some FieldType.int), 7, 0, 0, false)
abbrev MX11_joins : MI := (RX11, cX11_joins, 8, (Option.some FieldType.boolean), 7, 0, 0, false)
abbrev MX11_nucleus : MI := (RX11, cX11_nucleus, 4, (Option.some FieldType.int), 8, 0, 0, false)
abbrev MX11_centre : MI := (RX11, cX11_centre, 5, (Option.some FieldType.int), 8, 0, 0, false)
abbrev MX11_idempotent : MI := (RX11, cX11_idempotent, 3, (Option.some FieldType.int), 7, 0, 0, false)
abbrev MX11_planar : MI := (RX11, cX11_planar, 6, (Option.some FieldType.int), 5, 0, 0, false)
abbrev MX11_squares : MI := (RX11, cX11_squares, 3, (Option.some FieldType.int), 7, 0, 0, false)
abbrev MX11_isFresh : MI := (RX11, cX11_isFresh, 5, (Option.some FieldType.boolean), 4, 0, 0, false)
abbrev MX11_equations : MI := (RX11, cX11_equations, 10, (Option.some FieldType.int), 5, 0, 0, false)
abbrev MX11_one : MI := (RX11, cX11_one, 1, (Option.some FieldType.int), 4, 0, 0, false)
abbrev MX11_of : MI := (RX11, cX11_of, 3, (Option.some FieldType.int), 9, 0, 0, false)
abbrev MX11_isElement : MI := (RX11, cX11_isElement, 3, (Option.some FieldType.boolean), 6, 0, 0, false)
abbrev MX11_product : MI := (RX11, cX11_product, 4, (Option.some FieldType.int), 7, 0, 0, false)
abbrev MX11_quotient : MI := (RX11, cX11_quotient, 6, (Option.some FieldType.int), 7, 0, 0, false)
abbrev MX11_ranks : MI := (RX11, cX11_ranks, 6, (Option.some FieldType.int), 7, 0, 0, false)
abbrev MX11_spans : MI := (RX11, cX11_spans, 4, none, 5, 0, 0, false)
abbrev MX11_span : MI := (RX11, cX11_span, 7, (Option.some FieldType.int), 7, 0, 0, false)
abbrev MX11_powers : MI := (RX11, cX11_powers, 5, (Option.some FieldType.int), 7, 0, 0, false)
abbrev MX11_unital : MI := (RX11, cX11_unital, 7, (Option.some FieldType.int), 8, 0, 0, false)
abbrev MX11_map : MI := (RX11, cX11_map, 4, (Option.some FieldType.boolean), 5, 0, 0, false)
abbrev MX11_imageOf : MI := (RX11, cX11_imageOf, 3, (Option.some FieldType.int), 6, 0, 0, false)
abbrev MX11_mapped : MI := (RX11, cX11_mapped, 6, (Option.some FieldType.int), 6, 0, 0, false)
abbrev MX11_isOneToOne : MI := (RX11, cX11_isOneToOne, 4, (Option.some FieldType.boolean), 5, 0, 0, false)
abbrev MX11_laysOther : MI := (RX11, cX11_laysOther, 3, none, 4, 0, 0, false)
abbrev MX11_areOfOneSize : MI := (RX11, cX11_areOfOneSize, 3, (Option.some FieldType.boolean), 6, 0, 0, false)
abbrev MX11_carry : MI := (RX11, cX11_carry, 5, (Option.some FieldType.int), 7, 0, 0, false)
abbrev MX11_maps : MI := (RX11, cX11_maps, 4, (Option.some FieldType.int), 15, 0, 0, false)
abbrev MX11_isFree : MI := (RX11, cX11_isFree, 4, (Option.some FieldType.boolean), 5, 0, 0, false)
abbrev MX11_same : MI := (RX11, cX11_same, 3, (Option.some FieldType.int), 16, 0, 0, false)
abbrev MX11_principal : MI := (RX11, cX11_principal, 6, none, 6, 0, 0, false)
abbrev MX11_isotopes : MI := (RX11, cX11_isotopes, 6, (Option.some FieldType.int), 16, 0, 0, false)
abbrev MX11_isOn : MI := (RX11, cX11_isOn, 4, (Option.some FieldType.boolean), 7, 0, 0, false)
abbrev MX11_lineBy : MI := (RX11, cX11_lineBy, 3, (Option.some FieldType.int), 7, 0, 0, false)
abbrev MX11_join : MI := (RX11, cX11_join, 5, (Option.some FieldType.int), 10, 0, 0, false)
abbrev MX11_meet : MI := (RX11, cX11_meet, 6, (Option.some FieldType.int), 10, 0, 0, false)
abbrev MX11_plane : MI := (RX11, cX11_plane, 5, (Option.some FieldType.int), 11, 0, 0, false)
abbrev MX11_areOnOne : MI := (RX11, cX11_areOnOne, 4, (Option.some FieldType.boolean), 11, 0, 0, false)
abbrev MX11_fano : MI := (RX11, cX11_fano, 10, (Option.some FieldType.int), 12, 0, 0, false)
abbrev MX11_parted : MI := (RX11, cX11_parted, 6, (Option.some FieldType.int), 10, 0, 0, false)
abbrev MX11_laysCube : MI := (RX11, cX11_laysCube, 6, none, 4, 0, 0, false)
abbrev MX11_isList : MI := (RX11, cX11_isList, 3, (Option.some FieldType.boolean), 4, 0, 0, false)
abbrev MX11_sizes : MI := (RX11, cX11_sizes, 3, none, 5, 0, 0, false)
abbrev MX11_list : MI := (RX11, cX11_list, 7, (Option.some FieldType.int), 8, 0, 0, false)
abbrev MX11_take : MI := (RX11, cX11_take, 8, (Option.some FieldType.boolean), 8, 0, 0, false)
abbrev MX11_image : MI := (RX11, cX11_image, 3, (Option.some FieldType.boolean), 4, 0, 0, false)
abbrev MX11_look : MI := (RX11, cX11_look, 2, (Option.some FieldType.int), 5, 0, 0, false)
abbrev MJ9_max_7cf53 : MI := (RJ9, cJ9_max_7cf53, 2, (Option.some FieldType.int), 4, 0, 0, false)
abbrev MJ9_min_7cf53 : MI := (RJ9, cJ9_min_7cf53, 2, (Option.some FieldType.int), 4, 0, 0, false)
abbrev MJ0_length_8abf5 : MI := (RJ0, cJ0_length_8abf5, 1, (Option.some FieldType.int), 5, 0, 0, false)
abbrev MJ0_charAt_5068e : MI := (RJ0, cJ0_charAt_5068e, 2, (Option.some FieldType.char), 7, 0, 0, false)
abbrev MJ0_coder_7d493 : MI := (RJ0, cJ0_coder_7d493, 1, (Option.some FieldType.byte), 4, 0, 0, false)
abbrev MJ0_isLatin1_aae02 : MI := (RJ0, cJ0_isLatin1_aae02, 1, (Option.some FieldType.boolean), 4, 0, 0, false)
abbrev MJ0_checkIndex_df160 : MI := (RJ0, cJ0_checkIndex_df160, 2, none, 5, 0, 0, false)
abbrev MJ1_charAt_3b067 : MI := (RJ1, cJ1_charAt_3b067, 2, (Option.some FieldType.char), 6, 0, 0, false)
abbrev MJ2_getChar_3b067 : MI := (RJ2, cJ2_getChar_3b067, 2, (Option.some FieldType.char), 4, 0, 0, false)
abbrev MJ2_length_9d52b : MI := (RJ2, cJ2_length_9d52b, 1, (Option.some FieldType.int), 4, 0, 0, false)
abbrev MJ2_charAt_3b067 : MI := (RJ2, cJ2_charAt_3b067, 2, (Option.some FieldType.char), 4, 0, 0, false)
abbrev MJ2_checkIndex_2214a : MI := (RJ2, cJ2_checkIndex_2214a, 2, none, 4, 0, 0, false)
abbrev MJ3_checkIndex_8e157 : MI := (RJ3, cJ3_checkIndex_8e157, 3, (Option.some FieldType.int), 4, 0, 0, false)
theorem uX0 : ∀ w ∈ u_ws RX0 TX0 6, w ∈ lw_good := by
  intro w hw
  obtain ⟨k, hk, rfl⟩ := List.mem_map.mp hw
  have hk := List.mem_range.mp hk
  revert k
  decide +kernel
theorem uX1 : ∀ w ∈ u_ws RX1 TX1 4, w ∈ lw_good := by
  intro w hw
  obtain ⟨k, hk, rfl⟩ := List.mem_map.mp hw
  have hk := List.mem_range.mp hk
  revert k
  decide +kernel
theorem uX2 : ∀ w ∈ u_ws RX2 TX2 5, w ∈ lw_good := by
  intro w hw
  obtain ⟨k, hk, rfl⟩ := List.mem_map.mp hw
  have hk := List.mem_range.mp hk
  revert k
  decide +kernel
theorem uX3 : ∀ w ∈ u_ws RX3 TX3 1, w ∈ lw_good := by
  intro w hw
  obtain ⟨k, hk, rfl⟩ := List.mem_map.mp hw
  have hk := List.mem_range.mp hk
  revert k
  decide +kernel
theorem uX4 : ∀ w ∈ u_ws RX4 TX4 16, w ∈ lw_good := by
  intro w hw
  obtain ⟨k, hk, rfl⟩ := List.mem_map.mp hw
  have hk := List.mem_range.mp hk
  revert k
  decide +kernel
theorem uX5 : ∀ w ∈ u_ws RX5 TX5 18, w ∈ lw_good := by
  intro w hw
  obtain ⟨k, hk, rfl⟩ := List.mem_map.mp hw
  have hk := List.mem_range.mp hk
  revert k
  decide +kernel
theorem uX6 : ∀ w ∈ u_ws RX6 TX6 6, w ∈ lw_good := by
  intro w hw
  obtain ⟨k, hk, rfl⟩ := List.mem_map.mp hw
  have hk := List.mem_range.mp hk
  revert k
  decide +kernel
theorem uX7 : ∀ w ∈ u_ws RX7 TX7 7, w ∈ lw_good := by
  intro w hw
  obtain ⟨k, hk, rfl⟩ := List.mem_map.mp hw
  have hk := List.mem_range.mp hk
  revert k
  decide +kernel
theorem uX9 : ∀ w ∈ u_ws RX9 TX9 6, w ∈ lw_good := by
  intro w hw
  obtain ⟨k, hk, rfl⟩ := List.mem_map.mp hw
  have hk := List.mem_range.mp hk
  revert k
  decide +kernel
theorem uX10 : ∀ w ∈ u_ws RX10 TX10 11, w ∈ lw_good := by
  intro w hw
  obtain ⟨k, hk, rfl⟩ := List.mem_map.mp hw
  have hk := List.mem_range.mp hk
  revert k
  decide +kernel
theorem uX11 : ∀ w ∈ u_ws RX11 TX11 42, w ∈ lw_good := by
  intro w hw
  obtain ⟨k, hk, rfl⟩ := List.mem_map.mp hw
  have hk := List.mem_range.mp hk
  revert k
  decide +kernel
theorem fl_X9_9 : FL RX9 9 8 0 := ⟨RX9, TX9, 6, rfl, by decide, uX9, q_f_X9_9⟩
theorem pl_X9_9 : PL RX9 9 8 0 (.int) false := ⟨RX9, TX9, 6, tyX9, rfl, by decide, uX9, q_f_X9_9, tyX9_ok, nmX9, rfl, rfl, fun _ => rfl⟩
theorem fl_X9_15 : FL RX9 15 8 1 := ⟨RX9, TX9, 6, rfl, by decide, uX9, q_f_X9_15⟩
theorem pl_X9_15 : PL RX9 15 8 1 (.int) false := ⟨RX9, TX9, 6, tyX9, rfl, by decide, uX9, q_f_X9_15, tyX9_ok, nmX9, rfl, rfl, fun _ => rfl⟩
theorem fl_X9_18 : FL RX9 18 8 2 := ⟨RX9, TX9, 6, rfl, by decide, uX9, q_f_X9_18⟩
theorem pl_X9_18 : PL RX9 18 8 2 (.int) false := ⟨RX9, TX9, 6, tyX9, rfl, by decide, uX9, q_f_X9_18, tyX9_ok, nmX9, rfl, rfl, fun _ => rfl⟩
theorem fl_X9_21 : FL RX9 21 8 3 := ⟨RX9, TX9, 6, rfl, by decide, uX9, q_f_X9_21⟩
theorem pl_X9_21 : PL RX9 21 8 3 (.int) false := ⟨RX9, TX9, 6, tyX9, rfl, by decide, uX9, q_f_X9_21, tyX9_ok, nmX9, rfl, rfl, fun _ => rfl⟩
theorem fl_X9_24 : FL RX9 24 8 4 := ⟨RX9, TX9, 6, rfl, by decide, uX9, q_f_X9_24⟩
theorem pl_X9_24 : PL RX9 24 8 4 (.array .int) true := ⟨RX9, TX9, 6, tyX9, rfl, by decide, uX9, q_f_X9_24, tyX9_ok, nmX9, rfl, rfl, fun _ => rfl⟩
theorem fl_X9_28 : FL RX9 28 8 5 := ⟨RX9, TX9, 6, rfl, by decide, uX9, q_f_X9_28⟩
theorem pl_X9_28 : PL RX9 28 8 5 (.array .int) true := ⟨RX9, TX9, 6, tyX9, rfl, by decide, uX9, q_f_X9_28, tyX9_ok, nmX9, rfl, rfl, fun _ => rfl⟩
theorem fl_X6_11 : FL RX6 11 6 0 := ⟨RX6, TX6, 6, rfl, by decide, uX6, q_f_X6_11⟩
theorem pl_X6_11 : PL RX6 11 6 0 (.array (.object "NeedNotJoin$World")) true := ⟨RX6, TX6, 6, tyX6, rfl, by decide, uX6, q_f_X6_11, tyX6_ok, nmX6, rfl, rfl, fun _ => rfl⟩
theorem fl_X6_17 : FL RX6 17 6 1 := ⟨RX6, TX6, 6, rfl, by decide, uX6, q_f_X6_17⟩
theorem pl_X6_17 : PL RX6 17 6 1 (.array (.object "NeedNotJoin$World")) true := ⟨RX6, TX6, 6, tyX6, rfl, by decide, uX6, q_f_X6_17, tyX6_ok, nmX6, rfl, rfl, fun _ => rfl⟩
theorem fl_X6_20 : FL RX6 20 6 2 := ⟨RX6, TX6, 6, rfl, by decide, uX6, q_f_X6_20⟩
theorem pl_X6_20 : PL RX6 20 6 2 (.array .int) true := ⟨RX6, TX6, 6, tyX6, rfl, by decide, uX6, q_f_X6_20, tyX6_ok, nmX6, rfl, rfl, fun _ => rfl⟩
theorem fl_X6_24 : FL RX6 24 6 3 := ⟨RX6, TX6, 6, rfl, by decide, uX6, q_f_X6_24⟩
theorem pl_X6_24 : PL RX6 24 6 3 (.array .int) true := ⟨RX6, TX6, 6, tyX6, rfl, by decide, uX6, q_f_X6_24, tyX6_ok, nmX6, rfl, rfl, fun _ => rfl⟩
theorem fl_X6_27 : FL RX6 27 6 4 := ⟨RX6, TX6, 6, rfl, by decide, uX6, q_f_X6_27⟩
theorem pl_X6_27 : PL RX6 27 6 4 (.int) false := ⟨RX6, TX6, 6, tyX6, rfl, by decide, uX6, q_f_X6_27, tyX6_ok, nmX6, rfl, rfl, fun _ => rfl⟩
theorem fl_X6_31 : FL RX6 31 6 5 := ⟨RX6, TX6, 6, rfl, by decide, uX6, q_f_X6_31⟩
theorem pl_X6_31 : PL RX6 31 6 5 (.int) false := ⟨RX6, TX6, 6, tyX6, rfl, by decide, uX6, q_f_X6_31, tyX6_ok, nmX6, rfl, rfl, fun _ => rfl⟩
theorem fl_X4_11 : FL RX4 11 4 0 := ⟨RX4, TX4, 16, rfl, by decide, uX4, q_f_X4_11⟩
theorem pl_X4_11 : PL RX4 11 4 0 (.array .int) true := ⟨RX4, TX4, 16, tyX4, rfl, by decide, uX4, q_f_X4_11, tyX4_ok, nmX4, rfl, rfl, fun _ => rfl⟩
theorem fl_X4_15 : FL RX4 15 4 1 := ⟨RX4, TX4, 16, rfl, by decide, uX4, q_f_X4_15⟩
theorem pl_X4_15 : PL RX4 15 4 1 (.int) false := ⟨RX4, TX4, 16, tyX4, rfl, by decide, uX4, q_f_X4_15, tyX4_ok, nmX4, rfl, rfl, fun _ => rfl⟩
theorem fl_X4_19 : FL RX4 19 4 2 := ⟨RX4, TX4, 16, rfl, by decide, uX4, q_f_X4_19⟩
theorem pl_X4_19 : PL RX4 19 4 2 (.int) false := ⟨RX4, TX4, 16, tyX4, rfl, by decide, uX4, q_f_X4_19, tyX4_ok, nmX4, rfl, rfl, fun _ => rfl⟩
theorem fl_X4_22 : FL RX4 22 4 3 := ⟨RX4, TX4, 16, rfl, by decide, uX4, q_f_X4_22⟩
theorem pl_X4_22 : PL RX4 22 4 3 (.int) false := ⟨RX4, TX4, 16, tyX4, rfl, by decide, uX4, q_f_X4_22, tyX4_ok, nmX4, rfl, rfl, fun _ => rfl⟩
theorem fl_X4_25 : FL RX4 25 4 4 := ⟨RX4, TX4, 16, rfl, by decide, uX4, q_f_X4_25⟩
theorem pl_X4_25 : PL RX4 25 4 4 (.int) false := ⟨RX4, TX4, 16, tyX4, rfl, by decide, uX4, q_f_X4_25, tyX4_ok, nmX4, rfl, rfl, fun _ => rfl⟩
theorem fl_X4_28 : FL RX4 28 4 5 := ⟨RX4, TX4, 16, rfl, by decide, uX4, q_f_X4_28⟩
theorem pl_X4_28 : PL RX4 28 4 5 (.int) false := ⟨RX4, TX4, 16, tyX4, rfl, by decide, uX4, q_f_X4_28, tyX4_ok, nmX4, rfl, rfl, fun _ => rfl⟩
theorem fl_X4_31 : FL RX4 31 4 6 := ⟨RX4, TX4, 16, rfl, by decide, uX4, q_f_X4_31⟩
theorem pl_X4_31 : PL RX4 31 4 6 (.int) false := ⟨RX4, TX4, 16, tyX4, rfl, by decide, uX4, q_f_X4_31, tyX4_ok, nmX4, rfl, rfl, fun _ => rfl⟩
theorem fl_X4_34 : FL RX4 34 4 7 := ⟨RX4, TX4, 16, rfl, by decide, uX4, q_f_X4_34⟩
theorem pl_X4_34 : PL RX4 34 4 7 (.int) false := ⟨RX4, TX4, 16, tyX4, rfl, by decide, uX4, q_f_X4_34, tyX4_ok, nmX4, rfl, rfl, fun _ => rfl⟩
theorem fl_X4_37 : FL RX4 37 4 8 := ⟨RX4, TX4, 16, rfl, by decide, uX4, q_f_X4_37⟩
theorem pl_X4_37 : PL RX4 37 4 8 (.int) false := ⟨RX4, TX4, 16, tyX4, rfl, by decide, uX4, q_f_X4_37, tyX4_ok, nmX4, rfl, rfl, fun _ => rfl⟩
theorem fl_X4_40 : FL RX4 40 4 9 := ⟨RX4, TX4, 16, rfl, by decide, uX4, q_f_X4_40⟩
theorem pl_X4_40 : PL RX4 40 4 9 (.boolean) false := ⟨RX4, TX4, 16, tyX4, rfl, by decide, uX4, q_f_X4_40, tyX4_ok, nmX4, rfl, rfl, fun _ => rfl⟩
theorem fl_X4_47 : FL RX4 47 4 10 := ⟨RX4, TX4, 16, rfl, by decide, uX4, q_f_X4_47⟩
theorem pl_X4_47 : PL RX4 47 4 10 (.object "NeedNotJoin$World") true := ⟨RX4, TX4, 16, tyX4, rfl, by decide, uX4, q_f_X4_47, tyX4_ok, nmX4, rfl, rfl, fun _ => rfl⟩
theorem fl_X4_51 : FL RX4 51 4 11 := ⟨RX4, TX4, 16, rfl, by decide, uX4, q_f_X4_51⟩
theorem pl_X4_51 : PL RX4 51 4 11 (.object "NeedNotJoin$World") true := ⟨RX4, TX4, 16, tyX4, rfl, by decide, uX4, q_f_X4_51, tyX4_ok, nmX4, rfl, rfl, fun _ => rfl⟩
theorem fl_X4_54 : FL RX4 54 4 12 := ⟨RX4, TX4, 16, rfl, by decide, uX4, q_f_X4_54⟩
theorem pl_X4_54 : PL RX4 54 4 12 (.object "NeedNotJoin$World") true := ⟨RX4, TX4, 16, tyX4, rfl, by decide, uX4, q_f_X4_54, tyX4_ok, nmX4, rfl, rfl, fun _ => rfl⟩
theorem fl_X4_57 : FL RX4 57 4 13 := ⟨RX4, TX4, 16, rfl, by decide, uX4, q_f_X4_57⟩
theorem pl_X4_57 : PL RX4 57 4 13 (.array .int) true := ⟨RX4, TX4, 16, tyX4, rfl, by decide, uX4, q_f_X4_57, tyX4_ok, nmX4, rfl, rfl, fun _ => rfl⟩
theorem fl_X4_60 : FL RX4 60 4 14 := ⟨RX4, TX4, 16, rfl, by decide, uX4, q_f_X4_60⟩
theorem pl_X4_60 : PL RX4 60 4 14 (.array .int) true := ⟨RX4, TX4, 16, tyX4, rfl, by decide, uX4, q_f_X4_60, tyX4_ok, nmX4, rfl, rfl, fun _ => rfl⟩
theorem fl_X4_63 : FL RX4 63 4 15 := ⟨RX4, TX4, 16, rfl, by decide, uX4, q_f_X4_63⟩
theorem pl_X4_63 : PL RX4 63 4 15 (.array .int) true := ⟨RX4, TX4, 16, tyX4, rfl, by decide, uX4, q_f_X4_63, tyX4_ok, nmX4, rfl, rfl, fun _ => rfl⟩
theorem fl_X0_7 : FL RX0 7 0 0 := ⟨RX0, TX0, 6, rfl, by decide, uX0, q_f_X0_7⟩
theorem pl_X0_7 : PL RX0 7 0 0 (.int) false := ⟨RX0, TX0, 6, tyX0, rfl, by decide, uX0, q_f_X0_7, tyX0_ok, nmX0, rfl, rfl, fun _ => rfl⟩
theorem fl_X0_13 : FL RX0 13 0 1 := ⟨RX0, TX0, 6, rfl, by decide, uX0, q_f_X0_13⟩
theorem pl_X0_13 : PL RX0 13 0 1 (.int) false := ⟨RX0, TX0, 6, tyX0, rfl, by decide, uX0, q_f_X0_13, tyX0_ok, nmX0, rfl, rfl, fun _ => rfl⟩
theorem fl_X0_16 : FL RX0 16 0 2 := ⟨RX0, TX0, 6, rfl, by decide, uX0, q_f_X0_16⟩
theorem pl_X0_16 : PL RX0 16 0 2 (.int) false := ⟨RX0, TX0, 6, tyX0, rfl, by decide, uX0, q_f_X0_16, tyX0_ok, nmX0, rfl, rfl, fun _ => rfl⟩
theorem fl_X0_21 : FL RX0 21 0 3 := ⟨RX0, TX0, 6, rfl, by decide, uX0, q_f_X0_21⟩
theorem pl_X0_21 : PL RX0 21 0 3 (.array (.array .int)) true := ⟨RX0, TX0, 6, tyX0, rfl, by decide, uX0, q_f_X0_21, tyX0_ok, nmX0, rfl, rfl, fun _ => rfl⟩
theorem fl_X0_24 : FL RX0 24 0 4 := ⟨RX0, TX0, 6, rfl, by decide, uX0, q_f_X0_24⟩
theorem pl_X0_24 : PL RX0 24 0 4 (.array .boolean) true := ⟨RX0, TX0, 6, tyX0, rfl, by decide, uX0, q_f_X0_24, tyX0_ok, nmX0, rfl, rfl, fun _ => rfl⟩
theorem fl_X0_28 : FL RX0 28 0 5 := ⟨RX0, TX0, 6, rfl, by decide, uX0, q_f_X0_28⟩
theorem pl_X0_28 : PL RX0 28 0 5 (.array .int) true := ⟨RX0, TX0, 6, tyX0, rfl, by decide, uX0, q_f_X0_28, tyX0_ok, nmX0, rfl, rfl, fun _ => rfl⟩
theorem fl_X1_21 : FL RX1 21 1 0 := ⟨RX1, TX1, 4, rfl, by decide, uX1, q_f_X1_21⟩
theorem pl_X1_21 : PL RX1 21 1 0 (.object "NeedNotJoin$Echelon") true := ⟨RX1, TX1, 4, tyX1, rfl, by decide, uX1, q_f_X1_21, tyX1_ok, nmX1, rfl, rfl, fun _ => rfl⟩
theorem fl_X1_9 : FL RX1 9 1 1 := ⟨RX1, TX1, 4, rfl, by decide, uX1, q_f_X1_9⟩
theorem pl_X1_9 : PL RX1 9 1 1 (.array .int) true := ⟨RX1, TX1, 4, tyX1, rfl, by decide, uX1, q_f_X1_9, tyX1_ok, nmX1, rfl, rfl, fun _ => rfl⟩
theorem fl_X1_15 : FL RX1 15 1 2 := ⟨RX1, TX1, 4, rfl, by decide, uX1, q_f_X1_15⟩
theorem pl_X1_15 : PL RX1 15 1 2 (.array .int) true := ⟨RX1, TX1, 4, tyX1, rfl, by decide, uX1, q_f_X1_15, tyX1_ok, nmX1, rfl, rfl, fun _ => rfl⟩
theorem fl_X1_18 : FL RX1 18 1 3 := ⟨RX1, TX1, 4, rfl, by decide, uX1, q_f_X1_18⟩
theorem pl_X1_18 : PL RX1 18 1 3 (.array .int) true := ⟨RX1, TX1, 4, tyX1, rfl, by decide, uX1, q_f_X1_18, tyX1_ok, nmX1, rfl, rfl, fun _ => rfl⟩
theorem fl_X7_28 : FL RX7 28 7 0 := ⟨RX7, TX7, 7, rfl, by decide, uX7, q_f_X7_28⟩
theorem pl_X7_28 : PL RX7 28 7 0 (.object "NeedNotJoin$Echelon") true := ⟨RX7, TX7, 7, tyX7, rfl, by decide, uX7, q_f_X7_28, tyX7_ok, nmX7, rfl, rfl, fun _ => rfl⟩
theorem fl_X7_32 : FL RX7 32 7 1 := ⟨RX7, TX7, 7, rfl, by decide, uX7, q_f_X7_32⟩
theorem pl_X7_32 : PL RX7 32 7 1 (.object "NeedNotJoin$Forms") true := ⟨RX7, TX7, 7, tyX7, rfl, by decide, uX7, q_f_X7_32, tyX7_ok, nmX7, rfl, rfl, fun _ => rfl⟩
theorem fl_X7_9 : FL RX7 9 7 2 := ⟨RX7, TX7, 7, rfl, by decide, uX7, q_f_X7_9⟩
theorem pl_X7_9 : PL RX7 9 7 2 (.array .int) true := ⟨RX7, TX7, 7, tyX7, rfl, by decide, uX7, q_f_X7_9, tyX7_ok, nmX7, rfl, rfl, fun _ => rfl⟩
theorem fl_X7_15 : FL RX7 15 7 3 := ⟨RX7, TX7, 7, rfl, by decide, uX7, q_f_X7_15⟩
theorem pl_X7_15 : PL RX7 15 7 3 (.array .int) true := ⟨RX7, TX7, 7, tyX7, rfl, by decide, uX7, q_f_X7_15, tyX7_ok, nmX7, rfl, rfl, fun _ => rfl⟩
theorem fl_X7_18 : FL RX7 18 7 4 := ⟨RX7, TX7, 7, rfl, by decide, uX7, q_f_X7_18⟩
theorem pl_X7_18 : PL RX7 18 7 4 (.array .int) true := ⟨RX7, TX7, 7, tyX7, rfl, by decide, uX7, q_f_X7_18, tyX7_ok, nmX7, rfl, rfl, fun _ => rfl⟩
theorem fl_X7_21 : FL RX7 21 7 5 := ⟨RX7, TX7, 7, rfl, by decide, uX7, q_f_X7_21⟩
theorem pl_X7_21 : PL RX7 21 7 5 (.array .int) true := ⟨RX7, TX7, 7, tyX7, rfl, by decide, uX7, q_f_X7_21, tyX7_ok, nmX7, rfl, rfl, fun _ => rfl⟩
theorem fl_X7_24 : FL RX7 24 7 6 := ⟨RX7, TX7, 7, rfl, by decide, uX7, q_f_X7_24⟩
theorem pl_X7_24 : PL RX7 24 7 6 (.array .boolean) true := ⟨RX7, TX7, 7, tyX7, rfl, by decide, uX7, q_f_X7_24, tyX7_ok, nmX7, rfl, rfl, fun _ => rfl⟩
theorem fl_X3_9 : FL RX3 9 3 0 := ⟨RX3, TX3, 1, rfl, by decide, uX3, q_f_X3_9⟩
theorem pl_X3_9 : PL RX3 9 3 0 (.object "NeedNotJoin$Study") true := ⟨RX3, TX3, 1, tyX3, rfl, by decide, uX3, q_f_X3_9, tyX3_ok, nmX3, rfl, rfl, fun _ => rfl⟩
theorem fl_X5_9 : FL RX5 9 5 0 := ⟨RX5, TX5, 18, rfl, by decide, uX5, q_f_X5_9⟩
theorem pl_X5_9 : PL RX5 9 5 0 (.int) false := ⟨RX5, TX5, 18, tyX5, rfl, by decide, uX5, q_f_X5_9, tyX5_ok, nmX5, rfl, rfl, fun _ => rfl⟩
theorem fl_X5_15 : FL RX5 15 5 1 := ⟨RX5, TX5, 18, rfl, by decide, uX5, q_f_X5_15⟩
theorem pl_X5_15 : PL RX5 15 5 1 (.int) false := ⟨RX5, TX5, 18, tyX5, rfl, by decide, uX5, q_f_X5_15, tyX5_ok, nmX5, rfl, rfl, fun _ => rfl⟩
theorem fl_X5_18 : FL RX5 18 5 2 := ⟨RX5, TX5, 18, rfl, by decide, uX5, q_f_X5_18⟩
theorem pl_X5_18 : PL RX5 18 5 2 (.int) false := ⟨RX5, TX5, 18, tyX5, rfl, by decide, uX5, q_f_X5_18, tyX5_ok, nmX5, rfl, rfl, fun _ => rfl⟩
theorem fl_X5_21 : FL RX5 21 5 3 := ⟨RX5, TX5, 18, rfl, by decide, uX5, q_f_X5_21⟩
theorem pl_X5_21 : PL RX5 21 5 3 (.int) false := ⟨RX5, TX5, 18, tyX5, rfl, by decide, uX5, q_f_X5_21, tyX5_ok, nmX5, rfl, rfl, fun _ => rfl⟩
theorem fl_X5_24 : FL RX5 24 5 4 := ⟨RX5, TX5, 18, rfl, by decide, uX5, q_f_X5_24⟩
theorem pl_X5_24 : PL RX5 24 5 4 (.int) false := ⟨RX5, TX5, 18, tyX5, rfl, by decide, uX5, q_f_X5_24, tyX5_ok, nmX5, rfl, rfl, fun _ => rfl⟩
theorem fl_X5_27 : FL RX5 27 5 5 := ⟨RX5, TX5, 18, rfl, by decide, uX5, q_f_X5_27⟩
theorem pl_X5_27 : PL RX5 27 5 5 (.array .int) true := ⟨RX5, TX5, 18, tyX5, rfl, by decide, uX5, q_f_X5_27, tyX5_ok, nmX5, rfl, rfl, fun _ => rfl⟩
theorem fl_X5_31 : FL RX5 31 5 6 := ⟨RX5, TX5, 18, rfl, by decide, uX5, q_f_X5_31⟩
theorem pl_X5_31 : PL RX5 31 5 6 (.array .int) true := ⟨RX5, TX5, 18, tyX5, rfl, by decide, uX5, q_f_X5_31, tyX5_ok, nmX5, rfl, rfl, fun _ => rfl⟩
theorem fl_X5_34 : FL RX5 34 5 7 := ⟨RX5, TX5, 18, rfl, by decide, uX5, q_f_X5_34⟩
theorem pl_X5_34 : PL RX5 34 5 7 (.array .int) true := ⟨RX5, TX5, 18, tyX5, rfl, by decide, uX5, q_f_X5_34, tyX5_ok, nmX5, rfl, rfl, fun _ => rfl⟩
theorem fl_X5_37 : FL RX5 37 5 8 := ⟨RX5, TX5, 18, rfl, by decide, uX5, q_f_X5_37⟩
theorem pl_X5_37 : PL RX5 37 5 8 (.array .int) true := ⟨RX5, TX5, 18, tyX5, rfl, by decide, uX5, q_f_X5_37, tyX5_ok, nmX5, rfl, rfl, fun _ => rfl⟩
theorem fl_X5_40 : FL RX5 40 5 9 := ⟨RX5, TX5, 18, rfl, by decide, uX5, q_f_X5_40⟩
theorem pl_X5_40 : PL RX5 40 5 9 (.array .int) true := ⟨RX5, TX5, 18, tyX5, rfl, by decide, uX5, q_f_X5_40, tyX5_ok, nmX5, rfl, rfl, fun _ => rfl⟩
theorem fl_X5_43 : FL RX5 43 5 10 := ⟨RX5, TX5, 18, rfl, by decide, uX5, q_f_X5_43⟩
theorem pl_X5_43 : PL RX5 43 5 10 (.array .int) true := ⟨RX5, TX5, 18, tyX5, rfl, by decide, uX5, q_f_X5_43, tyX5_ok, nmX5, rfl, rfl, fun _ => rfl⟩
theorem fl_X5_46 : FL RX5 46 5 11 := ⟨RX5, TX5, 18, rfl, by decide, uX5, q_f_X5_46⟩
theorem pl_X5_46 : PL RX5 46 5 11 (.array .int) true := ⟨RX5, TX5, 18, tyX5, rfl, by decide, uX5, q_f_X5_46, tyX5_ok, nmX5, rfl, rfl, fun _ => rfl⟩
theorem fl_X5_49 : FL RX5 49 5 12 := ⟨RX5, TX5, 18, rfl, by decide, uX5, q_f_X5_49⟩
theorem pl_X5_49 : PL RX5 49 5 12 (.array .int) true := ⟨RX5, TX5, 18, tyX5, rfl, by decide, uX5, q_f_X5_49, tyX5_ok, nmX5, rfl, rfl, fun _ => rfl⟩
theorem fl_X5_52 : FL RX5 52 5 13 := ⟨RX5, TX5, 18, rfl, by decide, uX5, q_f_X5_52⟩
theorem pl_X5_52 : PL RX5 52 5 13 (.array .int) true := ⟨RX5, TX5, 18, tyX5, rfl, by decide, uX5, q_f_X5_52, tyX5_ok, nmX5, rfl, rfl, fun _ => rfl⟩
theorem fl_X5_55 : FL RX5 55 5 14 := ⟨RX5, TX5, 18, rfl, by decide, uX5, q_f_X5_55⟩
theorem pl_X5_55 : PL RX5 55 5 14 (.array .int) true := ⟨RX5, TX5, 18, tyX5, rfl, by decide, uX5, q_f_X5_55, tyX5_ok, nmX5, rfl, rfl, fun _ => rfl⟩
theorem fl_X5_58 : FL RX5 58 5 15 := ⟨RX5, TX5, 18, rfl, by decide, uX5, q_f_X5_58⟩
theorem pl_X5_58 : PL RX5 58 5 15 (.array .int) true := ⟨RX5, TX5, 18, tyX5, rfl, by decide, uX5, q_f_X5_58, tyX5_ok, nmX5, rfl, rfl, fun _ => rfl⟩
theorem fl_X5_61 : FL RX5 61 5 16 := ⟨RX5, TX5, 18, rfl, by decide, uX5, q_f_X5_61⟩
theorem pl_X5_61 : PL RX5 61 5 16 (.array .int) true := ⟨RX5, TX5, 18, tyX5, rfl, by decide, uX5, q_f_X5_61, tyX5_ok, nmX5, rfl, rfl, fun _ => rfl⟩
theorem fl_X5_64 : FL RX5 64 5 17 := ⟨RX5, TX5, 18, rfl, by decide, uX5, q_f_X5_64⟩
theorem pl_X5_64 : PL RX5 64 5 17 (.array .int) true := ⟨RX5, TX5, 18, tyX5, rfl, by decide, uX5, q_f_X5_64, tyX5_ok, nmX5, rfl, rfl, fun _ => rfl⟩
theorem fl_X2_30 : FL RX2 30 2 0 := ⟨RX2, TX2, 5, rfl, by decide, uX2, q_f_X2_30⟩
theorem pl_X2_30 : PL RX2 30 2 0 (.object "NeedNotJoin$Study") true := ⟨RX2, TX2, 5, tyX2, rfl, by decide, uX2, q_f_X2_30, tyX2_ok, nmX2, rfl, rfl, fun _ => rfl⟩
theorem fl_X2_12 : FL RX2 12 2 1 := ⟨RX2, TX2, 5, rfl, by decide, uX2, q_f_X2_12⟩
theorem pl_X2_12 : PL RX2 12 2 1 (.object "NeedNotJoin$World") true := ⟨RX2, TX2, 5, tyX2, rfl, by decide, uX2, q_f_X2_12, tyX2_ok, nmX2, rfl, rfl, fun _ => rfl⟩
theorem fl_X2_18 : FL RX2 18 2 2 := ⟨RX2, TX2, 5, rfl, by decide, uX2, q_f_X2_18⟩
theorem pl_X2_18 : PL RX2 18 2 2 (.array .boolean) true := ⟨RX2, TX2, 5, tyX2, rfl, by decide, uX2, q_f_X2_18, tyX2_ok, nmX2, rfl, rfl, fun _ => rfl⟩
theorem fl_X2_24 : FL RX2 24 2 3 := ⟨RX2, TX2, 5, rfl, by decide, uX2, q_f_X2_24⟩
theorem pl_X2_24 : PL RX2 24 2 3 (.array (.array .int)) true := ⟨RX2, TX2, 5, tyX2, rfl, by decide, uX2, q_f_X2_24, tyX2_ok, nmX2, rfl, rfl, fun _ => rfl⟩
theorem fl_X2_27 : FL RX2 27 2 4 := ⟨RX2, TX2, 5, rfl, by decide, uX2, q_f_X2_27⟩
theorem pl_X2_27 : PL RX2 27 2 4 (.array (.array .int)) true := ⟨RX2, TX2, 5, tyX2, rfl, by decide, uX2, q_f_X2_27, tyX2_ok, nmX2, rfl, rfl, fun _ => rfl⟩
theorem fl_X10_10 : FL RX10 10 9 0 := ⟨RX10, TX10, 11, rfl, by decide, uX10, q_f_X10_10⟩
theorem pl_X10_10 : PL RX10 10 9 0 (.object "NeedNotJoin$State") true := ⟨RX10, TX10, 11, tyX10, rfl, by decide, uX10, q_f_X10_10, tyX10_ok, nmX10, rfl, rfl, fun _ => rfl⟩
theorem fl_X10_16 : FL RX10 16 9 1 := ⟨RX10, TX10, 11, rfl, by decide, uX10, q_f_X10_16⟩
theorem pl_X10_16 : PL RX10 16 9 1 (.object "NeedNotJoin$State") true := ⟨RX10, TX10, 11, tyX10, rfl, by decide, uX10, q_f_X10_16, tyX10_ok, nmX10, rfl, rfl, fun _ => rfl⟩
theorem fl_X10_19 : FL RX10 19 9 2 := ⟨RX10, TX10, 11, rfl, by decide, uX10, q_f_X10_19⟩
theorem pl_X10_19 : PL RX10 19 9 2 (.boolean) false := ⟨RX10, TX10, 11, tyX10, rfl, by decide, uX10, q_f_X10_19, tyX10_ok, nmX10, rfl, rfl, fun _ => rfl⟩
theorem fl_X10_26 : FL RX10 26 9 3 := ⟨RX10, TX10, 11, rfl, by decide, uX10, q_f_X10_26⟩
theorem pl_X10_26 : PL RX10 26 9 3 (.object "NeedNotJoin$Reader") true := ⟨RX10, TX10, 11, tyX10, rfl, by decide, uX10, q_f_X10_26, tyX10_ok, nmX10, rfl, rfl, fun _ => rfl⟩
theorem fl_X10_33 : FL RX10 33 9 4 := ⟨RX10, TX10, 11, rfl, by decide, uX10, q_f_X10_33⟩
theorem pl_X10_33 : PL RX10 33 9 4 (.object "NeedNotJoin$Echelon") true := ⟨RX10, TX10, 11, tyX10, rfl, by decide, uX10, q_f_X10_33, tyX10_ok, nmX10, rfl, rfl, fun _ => rfl⟩
theorem fl_X10_42 : FL RX10 42 9 5 := ⟨RX10, TX10, 11, rfl, by decide, uX10, q_f_X10_42⟩
theorem pl_X10_42 : PL RX10 42 9 5 (.object "NeedNotJoin$Forms") true := ⟨RX10, TX10, 11, tyX10, rfl, by decide, uX10, q_f_X10_42, tyX10_ok, nmX10, rfl, rfl, fun _ => rfl⟩
theorem fl_X10_51 : FL RX10 51 9 6 := ⟨RX10, TX10, 11, rfl, by decide, uX10, q_f_X10_51⟩
theorem pl_X10_51 : PL RX10 51 9 6 (.object "NeedNotJoin$Study") true := ⟨RX10, TX10, 11, tyX10, rfl, by decide, uX10, q_f_X10_51, tyX10_ok, nmX10, rfl, rfl, fun _ => rfl⟩
theorem fl_X10_60 : FL RX10 60 9 7 := ⟨RX10, TX10, 11, rfl, by decide, uX10, q_f_X10_60⟩
theorem pl_X10_60 : PL RX10 60 9 7 (.object "NeedNotJoin$Plane") true := ⟨RX10, TX10, 11, tyX10, rfl, by decide, uX10, q_f_X10_60, tyX10_ok, nmX10, rfl, rfl, fun _ => rfl⟩
theorem fl_X10_67 : FL RX10 67 9 8 := ⟨RX10, TX10, 11, rfl, by decide, uX10, q_f_X10_67⟩
theorem pl_X10_67 : PL RX10 67 9 8 (.object "NeedNotJoin$Search") true := ⟨RX10, TX10, 11, tyX10, rfl, by decide, uX10, q_f_X10_67, tyX10_ok, nmX10, rfl, rfl, fun _ => rfl⟩
theorem fl_X10_74 : FL RX10 74 9 9 := ⟨RX10, TX10, 11, rfl, by decide, uX10, q_f_X10_74⟩
theorem pl_X10_74 : PL RX10 74 9 9 (.object "NeedNotJoin$Lists") true := ⟨RX10, TX10, 11, tyX10, rfl, by decide, uX10, q_f_X10_74, tyX10_ok, nmX10, rfl, rfl, fun _ => rfl⟩
theorem fl_X10_81 : FL RX10 81 9 10 := ⟨RX10, TX10, 11, rfl, by decide, uX10, q_f_X10_81⟩
theorem pl_X10_81 : PL RX10 81 9 10 (.object "NeedNotJoin$World") true := ⟨RX10, TX10, 11, tyX10, rfl, by decide, uX10, q_f_X10_81, tyX10_ok, nmX10, rfl, rfl, fun _ => rfl⟩
theorem fl_X11_7 : FL RX11 7 10 0 := ⟨RX11, TX11, 42, rfl, by decide, uX11, q_f_X11_7⟩
theorem pl_X11_7 : PL RX11 7 10 0 (.array .int) true := ⟨RX11, TX11, 42, tyX11, rfl, by decide, uX11, q_f_X11_7, tyX11_ok, nmX11, rfl, rfl, fun _ => rfl⟩
theorem fl_X11_13 : FL RX11 13 10 1 := ⟨RX11, TX11, 42, rfl, by decide, uX11, q_f_X11_13⟩
theorem pl_X11_13 : PL RX11 13 10 1 (.array .int) true := ⟨RX11, TX11, 42, tyX11, rfl, by decide, uX11, q_f_X11_13, tyX11_ok, nmX11, rfl, rfl, fun _ => rfl⟩
theorem fl_X11_377 : FL RX11 377 10 2 := ⟨RX11, TX11, 42, rfl, by decide, uX11, q_f_X11_377⟩
theorem pl_X11_377 : PL RX11 377 10 2 (.boolean) false := ⟨RX11, TX11, 42, tyX11, rfl, by decide, uX11, q_f_X11_377, tyX11_ok, nmX11, rfl, rfl, fun _ => rfl⟩
theorem fl_X11_106 : FL RX11 106 10 3 := ⟨RX11, TX11, 42, rfl, by decide, uX11, q_f_X11_106⟩
theorem pl_X11_106 : PL RX11 106 10 3 (.int) false := ⟨RX11, TX11, 42, tyX11, rfl, by decide, uX11, q_f_X11_106, tyX11_ok, nmX11, rfl, rfl, fun _ => rfl⟩
theorem fl_X11_109 : FL RX11 109 10 4 := ⟨RX11, TX11, 42, rfl, by decide, uX11, q_f_X11_109⟩
theorem pl_X11_109 : PL RX11 109 10 4 (.int) false := ⟨RX11, TX11, 42, tyX11, rfl, by decide, uX11, q_f_X11_109, tyX11_ok, nmX11, rfl, rfl, fun _ => rfl⟩
theorem fl_X11_112 : FL RX11 112 10 5 := ⟨RX11, TX11, 42, rfl, by decide, uX11, q_f_X11_112⟩
theorem pl_X11_112 : PL RX11 112 10 5 (.int) false := ⟨RX11, TX11, 42, tyX11, rfl, by decide, uX11, q_f_X11_112, tyX11_ok, nmX11, rfl, rfl, fun _ => rfl⟩
theorem fl_X11_16 : FL RX11 16 10 6 := ⟨RX11, TX11, 42, rfl, by decide, uX11, q_f_X11_16⟩
theorem pl_X11_16 : PL RX11 16 10 6 (.array .int) true := ⟨RX11, TX11, 42, tyX11, rfl, by decide, uX11, q_f_X11_16, tyX11_ok, nmX11, rfl, rfl, fun _ => rfl⟩
theorem fl_X11_19 : FL RX11 19 10 7 := ⟨RX11, TX11, 42, rfl, by decide, uX11, q_f_X11_19⟩
theorem pl_X11_19 : PL RX11 19 10 7 (.array .int) true := ⟨RX11, TX11, 42, tyX11, rfl, by decide, uX11, q_f_X11_19, tyX11_ok, nmX11, rfl, rfl, fun _ => rfl⟩
theorem fl_X11_22 : FL RX11 22 10 8 := ⟨RX11, TX11, 42, rfl, by decide, uX11, q_f_X11_22⟩
theorem pl_X11_22 : PL RX11 22 10 8 (.array .int) true := ⟨RX11, TX11, 42, tyX11, rfl, by decide, uX11, q_f_X11_22, tyX11_ok, nmX11, rfl, rfl, fun _ => rfl⟩
theorem fl_X11_25 : FL RX11 25 10 9 := ⟨RX11, TX11, 42, rfl, by decide, uX11, q_f_X11_25⟩
theorem pl_X11_25 : PL RX11 25 10 9 (.array .int) true := ⟨RX11, TX11, 42, tyX11, rfl, by decide, uX11, q_f_X11_25, tyX11_ok, nmX11, rfl, rfl, fun _ => rfl⟩
theorem fl_X11_28 : FL RX11 28 10 10 := ⟨RX11, TX11, 42, rfl, by decide, uX11, q_f_X11_28⟩
theorem pl_X11_28 : PL RX11 28 10 10 (.array .int) true := ⟨RX11, TX11, 42, tyX11, rfl, by decide, uX11, q_f_X11_28, tyX11_ok, nmX11, rfl, rfl, fun _ => rfl⟩
theorem fl_X11_31 : FL RX11 31 10 11 := ⟨RX11, TX11, 42, rfl, by decide, uX11, q_f_X11_31⟩
theorem pl_X11_31 : PL RX11 31 10 11 (.array .int) true := ⟨RX11, TX11, 42, tyX11, rfl, by decide, uX11, q_f_X11_31, tyX11_ok, nmX11, rfl, rfl, fun _ => rfl⟩
theorem fl_X11_34 : FL RX11 34 10 12 := ⟨RX11, TX11, 42, rfl, by decide, uX11, q_f_X11_34⟩
theorem pl_X11_34 : PL RX11 34 10 12 (.array .int) true := ⟨RX11, TX11, 42, tyX11, rfl, by decide, uX11, q_f_X11_34, tyX11_ok, nmX11, rfl, rfl, fun _ => rfl⟩
theorem fl_X11_157 : FL RX11 157 10 13 := ⟨RX11, TX11, 42, rfl, by decide, uX11, q_f_X11_157⟩
theorem pl_X11_157 : PL RX11 157 10 13 (.int) false := ⟨RX11, TX11, 42, tyX11, rfl, by decide, uX11, q_f_X11_157, tyX11_ok, nmX11, rfl, rfl, fun _ => rfl⟩
theorem fl_X11_160 : FL RX11 160 10 14 := ⟨RX11, TX11, 42, rfl, by decide, uX11, q_f_X11_160⟩
theorem pl_X11_160 : PL RX11 160 10 14 (.int) false := ⟨RX11, TX11, 42, tyX11, rfl, by decide, uX11, q_f_X11_160, tyX11_ok, nmX11, rfl, rfl, fun _ => rfl⟩
theorem fl_X11_192 : FL RX11 192 10 15 := ⟨RX11, TX11, 42, rfl, by decide, uX11, q_f_X11_192⟩
theorem pl_X11_192 : PL RX11 192 10 15 (.int) false := ⟨RX11, TX11, 42, tyX11, rfl, by decide, uX11, q_f_X11_192, tyX11_ok, nmX11, rfl, rfl, fun _ => rfl⟩
theorem fl_X11_163 : FL RX11 163 10 16 := ⟨RX11, TX11, 42, rfl, by decide, uX11, q_f_X11_163⟩
theorem pl_X11_163 : PL RX11 163 10 16 (.int) false := ⟨RX11, TX11, 42, tyX11, rfl, by decide, uX11, q_f_X11_163, tyX11_ok, nmX11, rfl, rfl, fun _ => rfl⟩
theorem fl_X11_204 : FL RX11 204 10 17 := ⟨RX11, TX11, 42, rfl, by decide, uX11, q_f_X11_204⟩
theorem pl_X11_204 : PL RX11 204 10 17 (.int) false := ⟨RX11, TX11, 42, tyX11, rfl, by decide, uX11, q_f_X11_204, tyX11_ok, nmX11, rfl, rfl, fun _ => rfl⟩
theorem fl_X11_207 : FL RX11 207 10 18 := ⟨RX11, TX11, 42, rfl, by decide, uX11, q_f_X11_207⟩
theorem pl_X11_207 : PL RX11 207 10 18 (.int) false := ⟨RX11, TX11, 42, tyX11, rfl, by decide, uX11, q_f_X11_207, tyX11_ok, nmX11, rfl, rfl, fun _ => rfl⟩
theorem fl_X11_210 : FL RX11 210 10 19 := ⟨RX11, TX11, 42, rfl, by decide, uX11, q_f_X11_210⟩
theorem pl_X11_210 : PL RX11 210 10 19 (.int) false := ⟨RX11, TX11, 42, tyX11, rfl, by decide, uX11, q_f_X11_210, tyX11_ok, nmX11, rfl, rfl, fun _ => rfl⟩
theorem fl_X11_251 : FL RX11 251 10 20 := ⟨RX11, TX11, 42, rfl, by decide, uX11, q_f_X11_251⟩
theorem pl_X11_251 : PL RX11 251 10 20 (.int) false := ⟨RX11, TX11, 42, tyX11, rfl, by decide, uX11, q_f_X11_251, tyX11_ok, nmX11, rfl, rfl, fun _ => rfl⟩
theorem fl_X11_37 : FL RX11 37 10 21 := ⟨RX11, TX11, 42, rfl, by decide, uX11, q_f_X11_37⟩
theorem pl_X11_37 : PL RX11 37 10 21 (.int) false := ⟨RX11, TX11, 42, tyX11, rfl, by decide, uX11, q_f_X11_37, tyX11_ok, nmX11, rfl, rfl, fun _ => rfl⟩
theorem fl_X11_238 : FL RX11 238 10 22 := ⟨RX11, TX11, 42, rfl, by decide, uX11, q_f_X11_238⟩
theorem pl_X11_238 : PL RX11 238 10 22 (.boolean) false := ⟨RX11, TX11, 42, tyX11, rfl, by decide, uX11, q_f_X11_238, tyX11_ok, nmX11, rfl, rfl, fun _ => rfl⟩
theorem fl_X11_41 : FL RX11 41 10 23 := ⟨RX11, TX11, 42, rfl, by decide, uX11, q_f_X11_41⟩
theorem pl_X11_41 : PL RX11 41 10 23 (.array .int) true := ⟨RX11, TX11, 42, tyX11, rfl, by decide, uX11, q_f_X11_41, tyX11_ok, nmX11, rfl, rfl, fun _ => rfl⟩
theorem fl_X11_46 : FL RX11 46 10 24 := ⟨RX11, TX11, 42, rfl, by decide, uX11, q_f_X11_46⟩
theorem pl_X11_46 : PL RX11 46 10 24 (.array (.array .int)) true := ⟨RX11, TX11, 42, tyX11, rfl, by decide, uX11, q_f_X11_46, tyX11_ok, nmX11, rfl, rfl, fun _ => rfl⟩
theorem fl_X11_49 : FL RX11 49 10 25 := ⟨RX11, TX11, 42, rfl, by decide, uX11, q_f_X11_49⟩
theorem pl_X11_49 : PL RX11 49 10 25 (.array (.array .int)) true := ⟨RX11, TX11, 42, tyX11, rfl, by decide, uX11, q_f_X11_49, tyX11_ok, nmX11, rfl, rfl, fun _ => rfl⟩
theorem fl_X11_52 : FL RX11 52 10 26 := ⟨RX11, TX11, 42, rfl, by decide, uX11, q_f_X11_52⟩
theorem pl_X11_52 : PL RX11 52 10 26 (.array .int) true := ⟨RX11, TX11, 42, tyX11, rfl, by decide, uX11, q_f_X11_52, tyX11_ok, nmX11, rfl, rfl, fun _ => rfl⟩
theorem fl_X11_55 : FL RX11 55 10 27 := ⟨RX11, TX11, 42, rfl, by decide, uX11, q_f_X11_55⟩
theorem pl_X11_55 : PL RX11 55 10 27 (.array .boolean) true := ⟨RX11, TX11, 42, tyX11, rfl, by decide, uX11, q_f_X11_55, tyX11_ok, nmX11, rfl, rfl, fun _ => rfl⟩
theorem fl_X11_59 : FL RX11 59 10 28 := ⟨RX11, TX11, 42, rfl, by decide, uX11, q_f_X11_59⟩
theorem pl_X11_59 : PL RX11 59 10 28 (.array .boolean) true := ⟨RX11, TX11, 42, tyX11, rfl, by decide, uX11, q_f_X11_59, tyX11_ok, nmX11, rfl, rfl, fun _ => rfl⟩
theorem fl_X11_62 : FL RX11 62 10 29 := ⟨RX11, TX11, 42, rfl, by decide, uX11, q_f_X11_62⟩
theorem pl_X11_62 : PL RX11 62 10 29 (.array .int) true := ⟨RX11, TX11, 42, tyX11, rfl, by decide, uX11, q_f_X11_62, tyX11_ok, nmX11, rfl, rfl, fun _ => rfl⟩
theorem fl_X11_315 : FL RX11 315 10 30 := ⟨RX11, TX11, 42, rfl, by decide, uX11, q_f_X11_315⟩
theorem pl_X11_315 : PL RX11 315 10 30 (.int) false := ⟨RX11, TX11, 42, tyX11, rfl, by decide, uX11, q_f_X11_315, tyX11_ok, nmX11, rfl, rfl, fun _ => rfl⟩
theorem fl_X11_65 : FL RX11 65 10 31 := ⟨RX11, TX11, 42, rfl, by decide, uX11, q_f_X11_65⟩
theorem pl_X11_65 : PL RX11 65 10 31 (.array .int) true := ⟨RX11, TX11, 42, tyX11, rfl, by decide, uX11, q_f_X11_65, tyX11_ok, nmX11, rfl, rfl, fun _ => rfl⟩
theorem fl_X11_68 : FL RX11 68 10 32 := ⟨RX11, TX11, 42, rfl, by decide, uX11, q_f_X11_68⟩
theorem pl_X11_68 : PL RX11 68 10 32 (.array .int) true := ⟨RX11, TX11, 42, tyX11, rfl, by decide, uX11, q_f_X11_68, tyX11_ok, nmX11, rfl, rfl, fun _ => rfl⟩
theorem fl_X11_71 : FL RX11 71 10 33 := ⟨RX11, TX11, 42, rfl, by decide, uX11, q_f_X11_71⟩
theorem pl_X11_71 : PL RX11 71 10 33 (.array .int) true := ⟨RX11, TX11, 42, tyX11, rfl, by decide, uX11, q_f_X11_71, tyX11_ok, nmX11, rfl, rfl, fun _ => rfl⟩
theorem fl_X11_74 : FL RX11 74 10 34 := ⟨RX11, TX11, 42, rfl, by decide, uX11, q_f_X11_74⟩
theorem pl_X11_74 : PL RX11 74 10 34 (.array .int) true := ⟨RX11, TX11, 42, tyX11, rfl, by decide, uX11, q_f_X11_74, tyX11_ok, nmX11, rfl, rfl, fun _ => rfl⟩
theorem fl_X11_77 : FL RX11 77 10 35 := ⟨RX11, TX11, 42, rfl, by decide, uX11, q_f_X11_77⟩
theorem pl_X11_77 : PL RX11 77 10 35 (.array .int) true := ⟨RX11, TX11, 42, tyX11, rfl, by decide, uX11, q_f_X11_77, tyX11_ok, nmX11, rfl, rfl, fun _ => rfl⟩
theorem fl_X11_80 : FL RX11 80 10 36 := ⟨RX11, TX11, 42, rfl, by decide, uX11, q_f_X11_80⟩
theorem pl_X11_80 : PL RX11 80 10 36 (.array .int) true := ⟨RX11, TX11, 42, tyX11, rfl, by decide, uX11, q_f_X11_80, tyX11_ok, nmX11, rfl, rfl, fun _ => rfl⟩
theorem fl_X11_83 : FL RX11 83 10 37 := ⟨RX11, TX11, 42, rfl, by decide, uX11, q_f_X11_83⟩
theorem pl_X11_83 : PL RX11 83 10 37 (.array .int) true := ⟨RX11, TX11, 42, tyX11, rfl, by decide, uX11, q_f_X11_83, tyX11_ok, nmX11, rfl, rfl, fun _ => rfl⟩
theorem fl_X11_86 : FL RX11 86 10 38 := ⟨RX11, TX11, 42, rfl, by decide, uX11, q_f_X11_86⟩
theorem pl_X11_86 : PL RX11 86 10 38 (.array .int) true := ⟨RX11, TX11, 42, tyX11, rfl, by decide, uX11, q_f_X11_86, tyX11_ok, nmX11, rfl, rfl, fun _ => rfl⟩
theorem fl_X11_89 : FL RX11 89 10 39 := ⟨RX11, TX11, 42, rfl, by decide, uX11, q_f_X11_89⟩
theorem pl_X11_89 : PL RX11 89 10 39 (.int) false := ⟨RX11, TX11, 42, tyX11, rfl, by decide, uX11, q_f_X11_89, tyX11_ok, nmX11, rfl, rfl, fun _ => rfl⟩
theorem fl_X11_92 : FL RX11 92 10 40 := ⟨RX11, TX11, 42, rfl, by decide, uX11, q_f_X11_92⟩
theorem pl_X11_92 : PL RX11 92 10 40 (.array .int) true := ⟨RX11, TX11, 42, tyX11, rfl, by decide, uX11, q_f_X11_92, tyX11_ok, nmX11, rfl, rfl, fun _ => rfl⟩
theorem fl_X11_95 : FL RX11 95 10 41 := ⟨RX11, TX11, 42, rfl, by decide, uX11, q_f_X11_95⟩
theorem pl_X11_95 : PL RX11 95 10 41 (.array .int) true := ⟨RX11, TX11, 42, tyX11, rfl, by decide, uX11, q_f_X11_95, tyX11_ok, nmX11, rfl, rfl, fun _ => rfl⟩
theorem bX0_init : BY yX0_init MX0_init 0 := ⟨q_c_X0_init, q_in_X0, by decide +kernel, rfl⟩
theorem bX0_start : BY yX0_start MX0_start 2 := ⟨q_c_X0_start, q_in_X0, by decide +kernel, rfl⟩
theorem bX0_rank : BY yX0_rank MX0_rank 0 := ⟨q_c_X0_rank, q_in_X0, by decide +kernel, rfl⟩
theorem bX0_add : BY yX0_add MX0_add 2 := ⟨q_c_X0_add, q_in_X0, by decide +kernel, rfl⟩
theorem bX0_addElement : BY yX0_addElement MX0_addElement 1 := ⟨q_c_X0_addElement, q_in_X0, by decide +kernel, rfl⟩
theorem bX0_settle : BY yX0_settle MX0_settle 0 := ⟨q_c_X0_settle, q_in_X0, by decide +kernel, rfl⟩
theorem bX0_reduce : BY yX0_reduce MX0_reduce 1 := ⟨q_c_X0_reduce, q_in_X0, by decide +kernel, rfl⟩
theorem bX0_lead : BY yX0_lead MX0_lead 1 := ⟨q_c_X0_lead, q_in_X0, by decide +kernel, rfl⟩
theorem bX1_init : BY yX1_init MX1_init 1 := ⟨q_c_X1_init, q_in_X1, by decide +kernel, rfl⟩
theorem bX1_rankOf : BY yX1_rankOf MX1_rankOf 3 := ⟨q_c_X1_rankOf, q_in_X1, by decide +kernel, rfl⟩
theorem bX1_entry : BY yX1_entry MX1_entry 4 := ⟨q_c_X1_entry, q_in_X1, by decide +kernel, rfl⟩
theorem bX1_countRanks : BY yX1_countRanks MX1_countRanks 3 := ⟨q_c_X1_countRanks, q_in_X1, by decide +kernel, rfl⟩
theorem bX1_leastSingular : BY yX1_leastSingular MX1_leastSingular 2 := ⟨q_c_X1_leastSingular, q_in_X1, by decide +kernel, rfl⟩
theorem bX1_howManyOfRank : BY yX1_howManyOfRank MX1_howManyOfRank 3 := ⟨q_c_X1_howManyOfRank, q_in_X1, by decide +kernel, rfl⟩
theorem bX1_planar : BY yX1_planar MX1_planar 1 := ⟨q_c_X1_planar, q_in_X1, by decide +kernel, rfl⟩
theorem bX1_whatParts : BY yX1_whatParts MX1_whatParts 2 := ⟨q_c_X1_whatParts, q_in_X1, by decide +kernel, rfl⟩
theorem bX1_derivations : BY yX1_derivations MX1_derivations 1 := ⟨q_c_X1_derivations, q_in_X1, by decide +kernel, rfl⟩
theorem bX1_triples : BY yX1_triples MX1_triples 1 := ⟨q_c_X1_triples, q_in_X1, by decide +kernel, rfl⟩
theorem bX1_demandDerivative : BY yX1_demandDerivative MX1_demandDerivative 3 := ⟨q_c_X1_demandDerivative, q_in_X1, by decide +kernel, rfl⟩
theorem bX2_init : BY yX2_init MX2_init 1 := ⟨q_c_X2_init, q_in_X2, by decide +kernel, rfl⟩
theorem bX2_count : BY yX2_count MX2_count 3 := ⟨q_c_X2_count, q_in_X2, by decide +kernel, rfl⟩
theorem bX2_hasWorld : BY yX2_hasWorld MX2_hasWorld 3 := ⟨q_c_X2_hasWorld, q_in_X2, by decide +kernel, rfl⟩
theorem bX2_bring : BY yX2_bring MX2_bring 4 := ⟨q_c_X2_bring, q_in_X2, by decide +kernel, rfl⟩
theorem bX2_kindOf : BY yX2_kindOf MX2_kindOf 2 := ⟨q_c_X2_kindOf, q_in_X2, by decide +kernel, rfl⟩
theorem bX2_ready : BY yX2_ready MX2_ready 3 := ⟨q_c_X2_ready, q_in_X2, by decide +kernel, rfl⟩
theorem bX2_power : BY yX2_power MX2_power 2 := ⟨q_c_X2_power, q_in_X2, by decide +kernel, rfl⟩
theorem bX2_isFailedEarly : BY yX2_isFailedEarly MX2_isFailedEarly 1 := ⟨q_c_X2_isFailedEarly, q_in_X2, by decide +kernel, rfl⟩
theorem bX2_note : BY yX2_note MX2_note 2 := ⟨q_c_X2_note, q_in_X2, by decide +kernel, rfl⟩
theorem bX2_fill : BY yX2_fill MX2_fill 4 := ⟨q_c_X2_fill, q_in_X2, by decide +kernel, rfl⟩
theorem bX3_init : BY yX3_init MX3_init 1 := ⟨q_c_X3_init, q_in_X3, by decide +kernel, rfl⟩
theorem bX3_hasPlace : BY yX3_hasPlace MX3_hasPlace 2 := ⟨q_c_X3_hasPlace, q_in_X3, by decide +kernel, rfl⟩
theorem bX3_last : BY yX3_last MX3_last 1 := ⟨q_c_X3_last, q_in_X3, by decide +kernel, rfl⟩
theorem bX3_isOn : BY yX3_isOn MX3_isOn 3 := ⟨q_c_X3_isOn, q_in_X3, by decide +kernel, rfl⟩
theorem bX3_height : BY yX3_height MX3_height 3 := ⟨q_c_X3_height, q_in_X3, by decide +kernel, rfl⟩
theorem bX3_through : BY yX3_through MX3_through 3 := ⟨q_c_X3_through, q_in_X3, by decide +kernel, rfl⟩
theorem bX3_join : BY yX3_join MX3_join 3 := ⟨q_c_X3_join, q_in_X3, by decide +kernel, rfl⟩
theorem bX3_meet : BY yX3_meet MX3_meet 3 := ⟨q_c_X3_meet, q_in_X3, by decide +kernel, rfl⟩
theorem bX3_isTriangle : BY yX3_isTriangle MX3_isTriangle 4 := ⟨q_c_X3_isTriangle, q_in_X3, by decide +kernel, rfl⟩
theorem bX3_diagonals : BY yX3_diagonals MX3_diagonals 5 := ⟨q_c_X3_diagonals, q_in_X3, by decide +kernel, rfl⟩
theorem bX4_init : BY yX4_init MX4_init 0 := ⟨q_c_X4_init, q_in_X4, by decide +kernel, rfl⟩
theorem bX4_hasRoom : BY yX4_hasRoom MX4_hasRoom 0 := ⟨q_c_X4_hasRoom, q_in_X4, by decide +kernel, rfl⟩
theorem bX4_takeNumber : BY yX4_takeNumber MX4_takeNumber 1 := ⟨q_c_X4_takeNumber, q_in_X4, by decide +kernel, rfl⟩
theorem bX4_length : BY yX4_length MX4_length 0 := ⟨q_c_X4_length, q_in_X4, by decide +kernel, rfl⟩
theorem bX4_cutAt : BY yX4_cutAt MX4_cutAt 1 := ⟨q_c_X4_cutAt, q_in_X4, by decide +kernel, rfl⟩
theorem bX4_forget : BY yX4_forget MX4_forget 0 := ⟨q_c_X4_forget, q_in_X4, by decide +kernel, rfl⟩
theorem bX4_faultKind : BY yX4_faultKind MX4_faultKind 0 := ⟨q_c_X4_faultKind, q_in_X4, by decide +kernel, rfl⟩
theorem bX4_faultPlace : BY yX4_faultPlace MX4_faultPlace 0 := ⟨q_c_X4_faultPlace, q_in_X4, by decide +kernel, rfl⟩
theorem bX4_told : BY yX4_told MX4_told 0 := ⟨q_c_X4_told, q_in_X4, by decide +kernel, rfl⟩
theorem bX4_read : BY yX4_read MX4_read 0 := ⟨q_c_X4_read, q_in_X4, by decide +kernel, rfl⟩
theorem bX4_fail : BY yX4_fail MX4_fail 1 := ⟨q_c_X4_fail, q_in_X4, by decide +kernel, rfl⟩
theorem bX4_statement : BY yX4_statement MX4_statement 0 := ⟨q_c_X4_statement, q_in_X4, by decide +kernel, rfl⟩
theorem bX4_expect : BY yX4_expect MX4_expect 1 := ⟨q_c_X4_expect, q_in_X4, by decide +kernel, rfl⟩
theorem bX4_numberBelow : BY yX4_numberBelow MX4_numberBelow 1 := ⟨q_c_X4_numberBelow, q_in_X4, by decide +kernel, rfl⟩
theorem bX4_order : BY yX4_order MX4_order 0 := ⟨q_c_X4_order, q_in_X4, by decide +kernel, rfl⟩
theorem bX4_polynomials : BY yX4_polynomials MX4_polynomials 0 := ⟨q_c_X4_polynomials, q_in_X4, by decide +kernel, rfl⟩
theorem bX4_fillPolynomials : BY yX4_fillPolynomials MX4_fillPolynomials 0 := ⟨q_c_X4_fillPolynomials, q_in_X4, by decide +kernel, rfl⟩
theorem bX4_twist : BY yX4_twist MX4_twist 0 := ⟨q_c_X4_twist, q_in_X4, by decide +kernel, rfl⟩
theorem bX4_fillTwist : BY yX4_fillTwist MX4_fillTwist 3 := ⟨q_c_X4_fillTwist, q_in_X4, by decide +kernel, rfl⟩
theorem bX4_raise : BY yX4_raise MX4_raise 2 := ⟨q_c_X4_raise, q_in_X4, by decide +kernel, rfl⟩
theorem bX4_row : BY yX4_row MX4_row 0 := ⟨q_c_X4_row, q_in_X4, by decide +kernel, rfl⟩
theorem bX4_turning : BY yX4_turning MX4_turning 0 := ⟨q_c_X4_turning, q_in_X4, by decide +kernel, rfl⟩
theorem bX4_step : BY yX4_step MX4_step 0 := ⟨q_c_X4_step, q_in_X4, by decide +kernel, rfl⟩
theorem bX4_stepNumber : BY yX4_stepNumber MX4_stepNumber 0 := ⟨q_c_X4_stepNumber, q_in_X4, by decide +kernel, rfl⟩
theorem bX4_isWord : BY yX4_isWord MX4_isWord 1 := ⟨q_c_X4_isWord, q_in_X4, by decide +kernel, rfl⟩
theorem bX4_isLetter : BY yX4_isLetter MX4_isLetter 1 := ⟨q_c_X4_isLetter, q_in_X4, by decide +kernel, rfl⟩
theorem bX4_isDigit : BY yX4_isDigit MX4_isDigit 1 := ⟨q_c_X4_isDigit, q_in_X4, by decide +kernel, rfl⟩
theorem bX5_init : BY yX5_init MX5_init 0 := ⟨q_c_X5_init, q_in_X5, by decide +kernel, rfl⟩
theorem bX5_countSame : BY yX5_countSame MX5_countSame 2 := ⟨q_c_X5_countSame, q_in_X5, by decide +kernel, rfl⟩
theorem bX5_countIsotopes : BY yX5_countIsotopes MX5_countIsotopes 2 := ⟨q_c_X5_countIsotopes, q_in_X5, by decide +kernel, rfl⟩
theorem bX5_prepare : BY yX5_prepare MX5_prepare 3 := ⟨q_c_X5_prepare, q_in_X5, by decide +kernel, rfl⟩
theorem bX5_chooseBasis : BY yX5_chooseBasis MX5_chooseBasis 1 := ⟨q_c_X5_chooseBasis, q_in_X5, by decide +kernel, rfl⟩
theorem bX5_chooseProduct : BY yX5_chooseProduct MX5_chooseProduct 2 := ⟨q_c_X5_chooseProduct, q_in_X5, by decide +kernel, rfl⟩
theorem bX5_chooseBase : BY yX5_chooseBase MX5_chooseBase 2 := ⟨q_c_X5_chooseBase, q_in_X5, by decide +kernel, rfl⟩
theorem bX5_enlarge : BY yX5_enlarge MX5_enlarge 2 := ⟨q_c_X5_enlarge, q_in_X5, by decide +kernel, rfl⟩
theorem bX5_findPairs : BY yX5_findPairs MX5_findPairs 1 := ⟨q_c_X5_findPairs, q_in_X5, by decide +kernel, rfl⟩
theorem bX5_timesThere : BY yX5_timesThere MX5_timesThere 2 := ⟨q_c_X5_timesThere, q_in_X5, by decide +kernel, rfl⟩
theorem bX5_extend : BY yX5_extend MX5_extend 1 := ⟨q_c_X5_extend, q_in_X5, by decide +kernel, rfl⟩
theorem bX5_attempt : BY yX5_attempt MX5_attempt 2 := ⟨q_c_X5_attempt, q_in_X5, by decide +kernel, rfl⟩
theorem bX5_agrees : BY yX5_agrees MX5_agrees 1 := ⟨q_c_X5_agrees, q_in_X5, by decide +kernel, rfl⟩
theorem bX6_init : BY yX6_init MX6_init 0 := ⟨q_c_X6_init, q_in_X6, by decide +kernel, rfl⟩
theorem bX6_copy : BY yX6_copy MX6_copy 1 := ⟨q_c_X6_copy, q_in_X6, by decide +kernel, rfl⟩
theorem bX6_world : BY yX6_world MX6_world 1 := ⟨q_c_X6_world, q_in_X6, by decide +kernel, rfl⟩
theorem bX6_tell : BY yX6_tell MX6_tell 2 := ⟨q_c_X6_tell, q_in_X6, by decide +kernel, rfl⟩
theorem bX6_dropOldest : BY yX6_dropOldest MX6_dropOldest 0 := ⟨q_c_X6_dropOldest, q_in_X6, by decide +kernel, rfl⟩
theorem bX6_goBack : BY yX6_goBack MX6_goBack 0 := ⟨q_c_X6_goBack, q_in_X6, by decide +kernel, rfl⟩
theorem bX6_goForth : BY yX6_goForth MX6_goForth 0 := ⟨q_c_X6_goForth, q_in_X6, by decide +kernel, rfl⟩
theorem bX6_exchange : BY yX6_exchange MX6_exchange 1 := ⟨q_c_X6_exchange, q_in_X6, by decide +kernel, rfl⟩
theorem bX6_canGoBack : BY yX6_canGoBack MX6_canGoBack 0 := ⟨q_c_X6_canGoBack, q_in_X6, by decide +kernel, rfl⟩
theorem bX6_canGoForth : BY yX6_canGoForth MX6_canGoForth 0 := ⟨q_c_X6_canGoForth, q_in_X6, by decide +kernel, rfl⟩
theorem bX6_tellImage : BY yX6_tellImage MX6_tellImage 3 := ⟨q_c_X6_tellImage, q_in_X6, by decide +kernel, rfl⟩
theorem bX6_imageAt : BY yX6_imageAt MX6_imageAt 1 := ⟨q_c_X6_imageAt, q_in_X6, by decide +kernel, rfl⟩
theorem bX7_init : BY yX7_init MX7_init 2 := ⟨q_c_X7_init, q_in_X7, by decide +kernel, rfl⟩
theorem bX7_divides : BY yX7_divides MX7_divides 1 := ⟨q_c_X7_divides, q_in_X7, by decide +kernel, rfl⟩
theorem bX7_failing : BY yX7_failing MX7_failing 1 := ⟨q_c_X7_failing, q_in_X7, by decide +kernel, rfl⟩
theorem bX7_leastToNought : BY yX7_leastToNought MX7_leastToNought 2 := ⟨q_c_X7_leastToNought, q_in_X7, by decide +kernel, rfl⟩
theorem bX7_unit : BY yX7_unit MX7_unit 1 := ⟨q_c_X7_unit, q_in_X7, by decide +kernel, rfl⟩
theorem bX7_isUnit : BY yX7_isUnit MX7_isUnit 2 := ⟨q_c_X7_isUnit, q_in_X7, by decide +kernel, rfl⟩
theorem bX7_divide : BY yX7_divide MX7_divide 4 := ⟨q_c_X7_divide, q_in_X7, by decide +kernel, rfl⟩
theorem bX7_tabulate : BY yX7_tabulate MX7_tabulate 3 := ⟨q_c_X7_tabulate, q_in_X7, by decide +kernel, rfl⟩
theorem bX7_makeUnital : BY yX7_makeUnital MX7_makeUnital 3 := ⟨q_c_X7_makeUnital, q_in_X7, by decide +kernel, rfl⟩
theorem bX7_difference : BY yX7_difference MX7_difference 4 := ⟨q_c_X7_difference, q_in_X7, by decide +kernel, rfl⟩
theorem bX7_firstUnjoined : BY yX7_firstUnjoined MX7_firstUnjoined 1 := ⟨q_c_X7_firstUnjoined, q_in_X7, by decide +kernel, rfl⟩
theorem bX7_findDifferences : BY yX7_findDifferences MX7_findDifferences 1 := ⟨q_c_X7_findDifferences, q_in_X7, by decide +kernel, rfl⟩
theorem bX7_nucleus : BY yX7_nucleus MX7_nucleus 2 := ⟨q_c_X7_nucleus, q_in_X7, by decide +kernel, rfl⟩
theorem bX7_centre : BY yX7_centre MX7_centre 1 := ⟨q_c_X7_centre, q_in_X7, by decide +kernel, rfl⟩
theorem bX7_demandJoining : BY yX7_demandJoining MX7_demandJoining 2 := ⟨q_c_X7_demandJoining, q_in_X7, by decide +kernel, rfl⟩
theorem bX7_demandNought : BY yX7_demandNought MX7_demandNought 3 := ⟨q_c_X7_demandNought, q_in_X7, by decide +kernel, rfl⟩
theorem bX7_demandCommuting : BY yX7_demandCommuting MX7_demandCommuting 1 := ⟨q_c_X7_demandCommuting, q_in_X7, by decide +kernel, rfl⟩
theorem bX7_idempotents : BY yX7_idempotents MX7_idempotents 1 := ⟨q_c_X7_idempotents, q_in_X7, by decide +kernel, rfl⟩
theorem bX7_squares : BY yX7_squares MX7_squares 1 := ⟨q_c_X7_squares, q_in_X7, by decide +kernel, rfl⟩
theorem bX7_unlikePowers : BY yX7_unlikePowers MX7_unlikePowers 2 := ⟨q_c_X7_unlikePowers, q_in_X7, by decide +kernel, rfl⟩
theorem bX7_forgetSeen : BY yX7_forgetSeen MX7_forgetSeen 0 := ⟨q_c_X7_forgetSeen, q_in_X7, by decide +kernel, rfl⟩
theorem bX7_isFirstSeen : BY yX7_isFirstSeen MX7_isFirstSeen 1 := ⟨q_c_X7_isFirstSeen, q_in_X7, by decide +kernel, rfl⟩
theorem bX7_closure : BY yX7_closure MX7_closure 3 := ⟨q_c_X7_closure, q_in_X7, by decide +kernel, rfl⟩
theorem bX7_gather : BY yX7_gather MX7_gather 1 := ⟨q_c_X7_gather, q_in_X7, by decide +kernel, rfl⟩
theorem bX7_whatIsNotCarried : BY yX7_whatIsNotCarried MX7_whatIsNotCarried 3 := ⟨q_c_X7_whatIsNotCarried, q_in_X7, by decide +kernel, rfl⟩
theorem bX7_firstNotCarried : BY yX7_firstNotCarried MX7_firstNotCarried 3 := ⟨q_c_X7_firstNotCarried, q_in_X7, by decide +kernel, rfl⟩
theorem bX7_imageOf : BY yX7_imageOf MX7_imageOf 4 := ⟨q_c_X7_imageOf, q_in_X7, by decide +kernel, rfl⟩
theorem bX8_isPrime : BY yX8_isPrime MX8_isPrime 1 := ⟨q_c_X8_isPrime, q_in_X8, by decide +kernel, rfl⟩
theorem bX8_power : BY yX8_power MX8_power 2 := ⟨q_c_X8_power, q_in_X8, by decide +kernel, rfl⟩
theorem bX8_plus : BY yX8_plus MX8_plus 3 := ⟨q_c_X8_plus, q_in_X8, by decide +kernel, rfl⟩
theorem bX8_manifold : BY yX8_manifold MX8_manifold 3 := ⟨q_c_X8_manifold, q_in_X8, by decide +kernel, rfl⟩
theorem bX8_less : BY yX8_less MX8_less 3 := ⟨q_c_X8_less, q_in_X8, by decide +kernel, rfl⟩
theorem bX8_unpack : BY yX8_unpack MX8_unpack 3 := ⟨q_c_X8_unpack, q_in_X8, by decide +kernel, rfl⟩
theorem bX8_spread : BY yX8_spread MX8_spread 4 := ⟨q_c_X8_spread, q_in_X8, by decide +kernel, rfl⟩
theorem bX9_init : BY yX9_init MX9_init 0 := ⟨q_c_X9_init, q_in_X9, by decide +kernel, rfl⟩
theorem bX9_canBe : BY yX9_canBe MX9_canBe 2 := ⟨q_c_X9_canBe, q_in_X9, by decide +kernel, rfl⟩
theorem bX9_clear : BY yX9_clear MX9_clear 2 := ⟨q_c_X9_clear, q_in_X9, by decide +kernel, rfl⟩
theorem bX9_copy : BY yX9_copy MX9_copy 1 := ⟨q_c_X9_copy, q_in_X9, by decide +kernel, rfl⟩
theorem bX9_prime : BY yX9_prime MX9_prime 0 := ⟨q_c_X9_prime, q_in_X9, by decide +kernel, rfl⟩
theorem bX9_size : BY yX9_size MX9_size 0 := ⟨q_c_X9_size, q_in_X9, by decide +kernel, rfl⟩
theorem bX9_order : BY yX9_order MX9_order 0 := ⟨q_c_X9_order, q_in_X9, by decide +kernel, rfl⟩
theorem bX9_knownFailing : BY yX9_knownFailing MX9_knownFailing 0 := ⟨q_c_X9_knownFailing, q_in_X9, by decide +kernel, rfl⟩
theorem bX9_learnFailing : BY yX9_learnFailing MX9_learnFailing 1 := ⟨q_c_X9_learnFailing, q_in_X9, by decide +kernel, rfl⟩
theorem bX9_hasElement : BY yX9_hasElement MX9_hasElement 1 := ⟨q_c_X9_hasElement, q_in_X9, by decide +kernel, rfl⟩
theorem bX9_hasCell : BY yX9_hasCell MX9_hasCell 3 := ⟨q_c_X9_hasCell, q_in_X9, by decide +kernel, rfl⟩
theorem bX9_cell : BY yX9_cell MX9_cell 3 := ⟨q_c_X9_cell, q_in_X9, by decide +kernel, rfl⟩
theorem bX9_put : BY yX9_put MX9_put 4 := ⟨q_c_X9_put, q_in_X9, by decide +kernel, rfl⟩
theorem bX9_putRow : BY yX9_putRow MX9_putRow 3 := ⟨q_c_X9_putRow, q_in_X9, by decide +kernel, rfl⟩
theorem bX9_base : BY yX9_base MX9_base 1 := ⟨q_c_X9_base, q_in_X9, by decide +kernel, rfl⟩
theorem bX9_times : BY yX9_times MX9_times 2 := ⟨q_c_X9_times, q_in_X9, by decide +kernel, rfl⟩
theorem bX9_commutes : BY yX9_commutes MX9_commutes 0 := ⟨q_c_X9_commutes, q_in_X9, by decide +kernel, rfl⟩
theorem bX9_turnFrom : BY yX9_turnFrom MX9_turnFrom 2 := ⟨q_c_X9_turnFrom, q_in_X9, by decide +kernel, rfl⟩
theorem bX9_turnedCell : BY yX9_turnedCell MX9_turnedCell 4 := ⟨q_c_X9_turnedCell, q_in_X9, by decide +kernel, rfl⟩
theorem bX10_init : BY yX10_init MX10_init 0 := ⟨q_c_X10_init, q_in_X10, by decide +kernel, rfl⟩
theorem bX10_feed : BY yX10_feed MX10_feed 5 := ⟨q_c_X10_feed, q_in_X10, by decide +kernel, rfl⟩
theorem bX10_end : BY yX10_end MX10_end 1 := ⟨q_c_X10_end, q_in_X10, by decide +kernel, rfl⟩
theorem bX10_text : BY yX10_text MX10_text 1 := ⟨q_c_X10_text, q_in_X10, by decide +kernel, rfl⟩
theorem bX10_fault : BY yX10_fault MX10_fault 1 := ⟨q_c_X10_fault, q_in_X10, by decide +kernel, rfl⟩
theorem bX10_digit : BY yX10_digit MX10_digit 5 := ⟨q_c_X10_digit, q_in_X10, by decide +kernel, rfl⟩
theorem bX10_cube : BY yX10_cube MX10_cube 4 := ⟨q_c_X10_cube, q_in_X10, by decide +kernel, rfl⟩
theorem bX10_of : BY yX10_of MX10_of 2 := ⟨q_c_X10_of, q_in_X10, by decide +kernel, rfl⟩
theorem bX10_product : BY yX10_product MX10_product 3 := ⟨q_c_X10_product, q_in_X10, by decide +kernel, rfl⟩
theorem bX10_quotient : BY yX10_quotient MX10_quotient 4 := ⟨q_c_X10_quotient, q_in_X10, by decide +kernel, rfl⟩
theorem bX10_ranks : BY yX10_ranks MX10_ranks 3 := ⟨q_c_X10_ranks, q_in_X10, by decide +kernel, rfl⟩
theorem bX10_powers : BY yX10_powers MX10_powers 2 := ⟨q_c_X10_powers, q_in_X10, by decide +kernel, rfl⟩
theorem bX10_span : BY yX10_span MX10_span 3 := ⟨q_c_X10_span, q_in_X10, by decide +kernel, rfl⟩
theorem bX10_fano : BY yX10_fano MX10_fano 5 := ⟨q_c_X10_fano, q_in_X10, by decide +kernel, rfl⟩
theorem bX10_parted : BY yX10_parted MX10_parted 2 := ⟨q_c_X10_parted, q_in_X10, by decide +kernel, rfl⟩
theorem bX10_turn : BY yX10_turn MX10_turn 3 := ⟨q_c_X10_turn, q_in_X10, by decide +kernel, rfl⟩
theorem bX10_unital : BY yX10_unital MX10_unital 3 := ⟨q_c_X10_unital, q_in_X10, by decide +kernel, rfl⟩
theorem bX10_undo : BY yX10_undo MX10_undo 1 := ⟨q_c_X10_undo, q_in_X10, by decide +kernel, rfl⟩
theorem bX10_map : BY yX10_map MX10_map 3 := ⟨q_c_X10_map, q_in_X10, by decide +kernel, rfl⟩
theorem bX10_carry : BY yX10_carry MX10_carry 2 := ⟨q_c_X10_carry, q_in_X10, by decide +kernel, rfl⟩
theorem bX10_same : BY yX10_same MX10_same 2 := ⟨q_c_X10_same, q_in_X10, by decide +kernel, rfl⟩
theorem bX10_isotopes : BY yX10_isotopes MX10_isotopes 2 := ⟨q_c_X10_isotopes, q_in_X10, by decide +kernel, rfl⟩
theorem bX10_plane : BY yX10_plane MX10_plane 4 := ⟨q_c_X10_plane, q_in_X10, by decide +kernel, rfl⟩
theorem bX10_list : BY yX10_list MX10_list 3 := ⟨q_c_X10_list, q_in_X10, by decide +kernel, rfl⟩
theorem bX10_take : BY yX10_take MX10_take 4 := ⟨q_c_X10_take, q_in_X10, by decide +kernel, rfl⟩
theorem bX10_image : BY yX10_image MX10_image 1 := ⟨q_c_X10_image, q_in_X10, by decide +kernel, rfl⟩
theorem bX10_look : BY yX10_look MX10_look 1 := ⟨q_c_X10_look, q_in_X10, by decide +kernel, rfl⟩
theorem bX10_alike : BY yX10_alike MX10_alike 2 := ⟨q_c_X10_alike, q_in_X10, by decide +kernel, rfl⟩
theorem bX11_init : BY yX11_init MX11_init 0 := ⟨q_c_X11_init, q_in_X11, by decide +kernel, rfl⟩
theorem bX11_isIn : BY yX11_isIn MX11_isIn 3 := ⟨q_c_X11_isIn, q_in_X11, by decide +kernel, rfl⟩
theorem bX11_isWorld : BY yX11_isWorld MX11_isWorld 1 := ⟨q_c_X11_isWorld, q_in_X11, by decide +kernel, rfl⟩
theorem bX11_power : BY yX11_power MX11_power 2 := ⟨q_c_X11_power, q_in_X11, by decide +kernel, rfl⟩
theorem bX11_orderOf : BY yX11_orderOf MX11_orderOf 1 := ⟨q_c_X11_orderOf, q_in_X11, by decide +kernel, rfl⟩
theorem bX11_laysOut : BY yX11_laysOut MX11_laysOut 1 := ⟨q_c_X11_laysOut, q_in_X11, by decide +kernel, rfl⟩
theorem bX11_digits : BY yX11_digits MX11_digits 2 := ⟨q_c_X11_digits, q_in_X11, by decide +kernel, rfl⟩
theorem bX11_element : BY yX11_element MX11_element 1 := ⟨q_c_X11_element, q_in_X11, by decide +kernel, rfl⟩
theorem bX11_timesBy : BY yX11_timesBy MX11_timesBy 3 := ⟨q_c_X11_timesBy, q_in_X11, by decide +kernel, rfl⟩
theorem bX11_times : BY yX11_times MX11_times 2 := ⟨q_c_X11_times, q_in_X11, by decide +kernel, rfl⟩
theorem bX11_plus : BY yX11_plus MX11_plus 3 := ⟨q_c_X11_plus, q_in_X11, by decide +kernel, rfl⟩
theorem bX11_minus : BY yX11_minus MX11_minus 2 := ⟨q_c_X11_minus, q_in_X11, by decide +kernel, rfl⟩
theorem bX11_base : BY yX11_base MX11_base 1 := ⟨q_c_X11_base, q_in_X11, by decide +kernel, rfl⟩
theorem bX11_copies : BY yX11_copies MX11_copies 2 := ⟨q_c_X11_copies, q_in_X11, by decide +kernel, rfl⟩
theorem bX11_pushes : BY yX11_pushes MX11_pushes 3 := ⟨q_c_X11_pushes, q_in_X11, by decide +kernel, rfl⟩
theorem bX11_acts : BY yX11_acts MX11_acts 1 := ⟨q_c_X11_acts, q_in_X11, by decide +kernel, rfl⟩
theorem bX11_undo : BY yX11_undo MX11_undo 1 := ⟨q_c_X11_undo, q_in_X11, by decide +kernel, rfl⟩
theorem bX11_becomes : BY yX11_becomes MX11_becomes 2 := ⟨q_c_X11_becomes, q_in_X11, by decide +kernel, rfl⟩
theorem bX11_digit : BY yX11_digit MX11_digit 5 := ⟨q_c_X11_digit, q_in_X11, by decide +kernel, rfl⟩
theorem bX11_cube : BY yX11_cube MX11_cube 4 := ⟨q_c_X11_cube, q_in_X11, by decide +kernel, rfl⟩
theorem bX11_turns : BY yX11_turns MX11_turns 2 := ⟨q_c_X11_turns, q_in_X11, by decide +kernel, rfl⟩
theorem bX11_turn : BY yX11_turn MX11_turn 3 := ⟨q_c_X11_turn, q_in_X11, by decide +kernel, rfl⟩
theorem bX11_feed : BY yX11_feed MX11_feed 5 := ⟨q_c_X11_feed, q_in_X11, by decide +kernel, rfl⟩
theorem bX11_end : BY yX11_end MX11_end 1 := ⟨q_c_X11_end, q_in_X11, by decide +kernel, rfl⟩
theorem bX11_see : BY yX11_see MX11_see 1 := ⟨q_c_X11_see, q_in_X11, by decide +kernel, rfl⟩
theorem bX11_isLetter : BY yX11_isLetter MX11_isLetter 1 := ⟨q_c_X11_isLetter, q_in_X11, by decide +kernel, rfl⟩
theorem bX11_isDigit : BY yX11_isDigit MX11_isDigit 1 := ⟨q_c_X11_isDigit, q_in_X11, by decide +kernel, rfl⟩
theorem bX11_is : BY yX11_is MX11_is 1 := ⟨q_c_X11_is, q_in_X11, by decide +kernel, rfl⟩
theorem bX11_word : BY yX11_word MX11_word 0 := ⟨q_c_X11_word, q_in_X11, by decide +kernel, rfl⟩
theorem bX11_next0 : BY yX11_next0 MX11_next0 0 := ⟨q_c_X11_next0, q_in_X11, by decide +kernel, rfl⟩
theorem bX11_bad : BY yX11_bad MX11_bad 1 := ⟨q_c_X11_bad, q_in_X11, by decide +kernel, rfl⟩
theorem bX11_number : BY yX11_number MX11_number 2 := ⟨q_c_X11_number, q_in_X11, by decide +kernel, rfl⟩
theorem bX11_order : BY yX11_order MX11_order 0 := ⟨q_c_X11_order, q_in_X11, by decide +kernel, rfl⟩
theorem bX11_numbers : BY yX11_numbers MX11_numbers 3 := ⟨q_c_X11_numbers, q_in_X11, by decide +kernel, rfl⟩
theorem bX11_fields : BY yX11_fields MX11_fields 0 := ⟨q_c_X11_fields, q_in_X11, by decide +kernel, rfl⟩
theorem bX11_powered : BY yX11_powered MX11_powered 2 := ⟨q_c_X11_powered, q_in_X11, by decide +kernel, rfl⟩
theorem bX11_twists : BY yX11_twists MX11_twists 3 := ⟨q_c_X11_twists, q_in_X11, by decide +kernel, rfl⟩
theorem bX11_statement : BY yX11_statement MX11_statement 1 := ⟨q_c_X11_statement, q_in_X11, by decide +kernel, rfl⟩
theorem bX11_aStatement : BY yX11_aStatement MX11_aStatement 1 := ⟨q_c_X11_aStatement, q_in_X11, by decide +kernel, rfl⟩
theorem bX11_text : BY yX11_text MX11_text 1 := ⟨q_c_X11_text, q_in_X11, by decide +kernel, rfl⟩
theorem bX11_fault : BY yX11_fault MX11_fault 1 := ⟨q_c_X11_fault, q_in_X11, by decide +kernel, rfl⟩
theorem bX11_rank : BY yX11_rank MX11_rank 0 := ⟨q_c_X11_rank, q_in_X11, by decide +kernel, rfl⟩
theorem bX11_laysMatrix : BY yX11_laysMatrix MX11_laysMatrix 2 := ⟨q_c_X11_laysMatrix, q_in_X11, by decide +kernel, rfl⟩
theorem bX11_rankOf : BY yX11_rankOf MX11_rankOf 2 := ⟨q_c_X11_rankOf, q_in_X11, by decide +kernel, rfl⟩
theorem bX11_firstFail : BY yX11_firstFail MX11_firstFail 0 := ⟨q_c_X11_firstFail, q_in_X11, by decide +kernel, rfl⟩
theorem bX11_unit : BY yX11_unit MX11_unit 0 := ⟨q_c_X11_unit, q_in_X11, by decide +kernel, rfl⟩
theorem bX11_commutes : BY yX11_commutes MX11_commutes 0 := ⟨q_c_X11_commutes, q_in_X11, by decide +kernel, rfl⟩
theorem bX11_firstApart : BY yX11_firstApart MX11_firstApart 0 := ⟨q_c_X11_firstApart, q_in_X11, by decide +kernel, rfl⟩
theorem bX11_joins : BY yX11_joins MX11_joins 2 := ⟨q_c_X11_joins, q_in_X11, by decide +kernel, rfl⟩
theorem bX11_nucleus : BY yX11_nucleus MX11_nucleus 1 := ⟨q_c_X11_nucleus, q_in_X11, by decide +kernel, rfl⟩
theorem bX11_centre : BY yX11_centre MX11_centre 0 := ⟨q_c_X11_centre, q_in_X11, by decide +kernel, rfl⟩
theorem bX11_idempotent : BY yX11_idempotent MX11_idempotent 0 := ⟨q_c_X11_idempotent, q_in_X11, by decide +kernel, rfl⟩
theorem bX11_planar : BY yX11_planar MX11_planar 0 := ⟨q_c_X11_planar, q_in_X11, by decide +kernel, rfl⟩
theorem bX11_squares : BY yX11_squares MX11_squares 0 := ⟨q_c_X11_squares, q_in_X11, by decide +kernel, rfl⟩
theorem bX11_isFresh : BY yX11_isFresh MX11_isFresh 1 := ⟨q_c_X11_isFresh, q_in_X11, by decide +kernel, rfl⟩
theorem bX11_equations : BY yX11_equations MX11_equations 1 := ⟨q_c_X11_equations, q_in_X11, by decide +kernel, rfl⟩
theorem bX11_one : BY yX11_one MX11_one 1 := ⟨q_c_X11_one, q_in_X11, by decide +kernel, rfl⟩
theorem bX11_of : BY yX11_of MX11_of 2 := ⟨q_c_X11_of, q_in_X11, by decide +kernel, rfl⟩
theorem bX11_isElement : BY yX11_isElement MX11_isElement 2 := ⟨q_c_X11_isElement, q_in_X11, by decide +kernel, rfl⟩
theorem bX11_product : BY yX11_product MX11_product 3 := ⟨q_c_X11_product, q_in_X11, by decide +kernel, rfl⟩
theorem bX11_quotient : BY yX11_quotient MX11_quotient 4 := ⟨q_c_X11_quotient, q_in_X11, by decide +kernel, rfl⟩
theorem bX11_ranks : BY yX11_ranks MX11_ranks 3 := ⟨q_c_X11_ranks, q_in_X11, by decide +kernel, rfl⟩
theorem bX11_spans : BY yX11_spans MX11_spans 1 := ⟨q_c_X11_spans, q_in_X11, by decide +kernel, rfl⟩
theorem bX11_span : BY yX11_span MX11_span 3 := ⟨q_c_X11_span, q_in_X11, by decide +kernel, rfl⟩
theorem bX11_powers : BY yX11_powers MX11_powers 2 := ⟨q_c_X11_powers, q_in_X11, by decide +kernel, rfl⟩
theorem bX11_unital : BY yX11_unital MX11_unital 3 := ⟨q_c_X11_unital, q_in_X11, by decide +kernel, rfl⟩
theorem bX11_map : BY yX11_map MX11_map 3 := ⟨q_c_X11_map, q_in_X11, by decide +kernel, rfl⟩
theorem bX11_imageOf : BY yX11_imageOf MX11_imageOf 2 := ⟨q_c_X11_imageOf, q_in_X11, by decide +kernel, rfl⟩
theorem bX11_mapped : BY yX11_mapped MX11_mapped 2 := ⟨q_c_X11_mapped, q_in_X11, by decide +kernel, rfl⟩
theorem bX11_isOneToOne : BY yX11_isOneToOne MX11_isOneToOne 1 := ⟨q_c_X11_isOneToOne, q_in_X11, by decide +kernel, rfl⟩
theorem bX11_laysOther : BY yX11_laysOther MX11_laysOther 1 := ⟨q_c_X11_laysOther, q_in_X11, by decide +kernel, rfl⟩
theorem bX11_areOfOneSize : BY yX11_areOfOneSize MX11_areOfOneSize 2 := ⟨q_c_X11_areOfOneSize, q_in_X11, by decide +kernel, rfl⟩
theorem bX11_carry : BY yX11_carry MX11_carry 2 := ⟨q_c_X11_carry, q_in_X11, by decide +kernel, rfl⟩
theorem bX11_maps : BY yX11_maps MX11_maps 1 := ⟨q_c_X11_maps, q_in_X11, by decide +kernel, rfl⟩
theorem bX11_isFree : BY yX11_isFree MX11_isFree 1 := ⟨q_c_X11_isFree, q_in_X11, by decide +kernel, rfl⟩
theorem bX11_same : BY yX11_same MX11_same 2 := ⟨q_c_X11_same, q_in_X11, by decide +kernel, rfl⟩
theorem bX11_principal : BY yX11_principal MX11_principal 2 := ⟨q_c_X11_principal, q_in_X11, by decide +kernel, rfl⟩
theorem bX11_isotopes : BY yX11_isotopes MX11_isotopes 2 := ⟨q_c_X11_isotopes, q_in_X11, by decide +kernel, rfl⟩
theorem bX11_isOn : BY yX11_isOn MX11_isOn 2 := ⟨q_c_X11_isOn, q_in_X11, by decide +kernel, rfl⟩
theorem bX11_lineBy : BY yX11_lineBy MX11_lineBy 2 := ⟨q_c_X11_lineBy, q_in_X11, by decide +kernel, rfl⟩
theorem bX11_join : BY yX11_join MX11_join 2 := ⟨q_c_X11_join, q_in_X11, by decide +kernel, rfl⟩
theorem bX11_meet : BY yX11_meet MX11_meet 2 := ⟨q_c_X11_meet, q_in_X11, by decide +kernel, rfl⟩
theorem bX11_plane : BY yX11_plane MX11_plane 4 := ⟨q_c_X11_plane, q_in_X11, by decide +kernel, rfl⟩
theorem bX11_areOnOne : BY yX11_areOnOne MX11_areOnOne 3 := ⟨q_c_X11_areOnOne, q_in_X11, by decide +kernel, rfl⟩
theorem bX11_fano : BY yX11_fano MX11_fano 5 := ⟨q_c_X11_fano, q_in_X11, by decide +kernel, rfl⟩
theorem bX11_parted : BY yX11_parted MX11_parted 2 := ⟨q_c_X11_parted, q_in_X11, by decide +kernel, rfl⟩
theorem bX11_laysCube : BY yX11_laysCube MX11_laysCube 1 := ⟨q_c_X11_laysCube, q_in_X11, by decide +kernel, rfl⟩
theorem bX11_isList : BY yX11_isList MX11_isList 2 := ⟨q_c_X11_isList, q_in_X11, by decide +kernel, rfl⟩
theorem bX11_sizes : BY yX11_sizes MX11_sizes 2 := ⟨q_c_X11_sizes, q_in_X11, by decide +kernel, rfl⟩
theorem bX11_list : BY yX11_list MX11_list 3 := ⟨q_c_X11_list, q_in_X11, by decide +kernel, rfl⟩
theorem bX11_take : BY yX11_take MX11_take 4 := ⟨q_c_X11_take, q_in_X11, by decide +kernel, rfl⟩
theorem bX11_image : BY yX11_image MX11_image 1 := ⟨q_c_X11_image, q_in_X11, by decide +kernel, rfl⟩
theorem bX11_look : BY yX11_look MX11_look 1 := ⟨q_c_X11_look, q_in_X11, by decide +kernel, rfl⟩
theorem bJ9_max_7cf53 : BY yJ9_max_7cf53 MJ9_max_7cf53 2 := ⟨q_c_J9_max_7cf53, q_in_J9, by decide +kernel, rfl⟩
theorem bJ9_min_7cf53 : BY yJ9_min_7cf53 MJ9_min_7cf53 2 := ⟨q_c_J9_min_7cf53, q_in_J9, by decide +kernel, rfl⟩
theorem bJ0_length_8abf5 : BY yJ0_length_8abf5 MJ0_length_8abf5 0 := ⟨q_c_J0_length_8abf5, q_in_J0, by decide +kernel, rfl⟩
theorem bJ0_charAt_5068e : BY yJ0_charAt_5068e MJ0_charAt_5068e 1 := ⟨q_c_J0_charAt_5068e, q_in_J0, by decide +kernel, rfl⟩
theorem bJ0_coder_7d493 : BY yJ0_coder_7d493 MJ0_coder_7d493 0 := ⟨q_c_J0_coder_7d493, q_in_J0, by decide +kernel, rfl⟩
theorem bJ0_isLatin1_aae02 : BY yJ0_isLatin1_aae02 MJ0_isLatin1_aae02 0 := ⟨q_c_J0_isLatin1_aae02, q_in_J0, by decide +kernel, rfl⟩
theorem bJ0_checkIndex_df160 : BY yJ0_checkIndex_df160 MJ0_checkIndex_df160 2 := ⟨q_c_J0_checkIndex_df160, q_in_J0, by decide +kernel, rfl⟩
theorem bJ1_charAt_3b067 : BY yJ1_charAt_3b067 MJ1_charAt_3b067 2 := ⟨q_c_J1_charAt_3b067, q_in_J1, by decide +kernel, rfl⟩
theorem bJ2_getChar_3b067 : BY yJ2_getChar_3b067 MJ2_getChar_3b067 2 := ⟨q_c_J2_getChar_3b067, q_in_J2, by decide +kernel, rfl⟩
theorem bJ2_length_9d52b : BY yJ2_length_9d52b MJ2_length_9d52b 1 := ⟨q_c_J2_length_9d52b, q_in_J2, by decide +kernel, rfl⟩
theorem bJ2_charAt_3b067 : BY yJ2_charAt_3b067 MJ2_charAt_3b067 2 := ⟨q_c_J2_charAt_3b067, q_in_J2, by decide +kernel, rfl⟩
theorem bJ2_checkIndex_2214a : BY yJ2_checkIndex_2214a MJ2_checkIndex_2214a 2 := ⟨q_c_J2_checkIndex_2214a, q_in_J2, by decide +kernel, rfl⟩
theorem bJ3_checkIndex_8e157 : BY yJ3_checkIndex_8e157 MJ3_checkIndex_8e157 3 := ⟨q_c_J3_checkIndex_8e157, q_in_J3, by decide +kernel, rfl⟩
