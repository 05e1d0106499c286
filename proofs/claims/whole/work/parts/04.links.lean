theorem ck_0 : CK 0 RX0 TX0 2 := ⟨rfl, fun u h => ws_of (inX0 u h).1 (inX0 u h).2, ⟨tyX0, tyX0_ok⟩, nmX0⟩
theorem ck_1 : CK 1 RX1 TX1 16 := ⟨rfl, fun u h => ws_of (inX1 u h).1 (inX1 u h).2, ⟨tyX1, tyX1_ok⟩, nmX1⟩
theorem ck_2 : CK 2 RX2 TX2 3 := ⟨rfl, fun u h => ws_of (inX2 u h).1 (inX2 u h).2, ⟨tyX2, tyX2_ok⟩, nmX2⟩
theorem ck_3 : CK 3 RX3 TX3 3 := ⟨rfl, fun u h => ws_of (inX3 u h).1 (inX3 u h).2, ⟨tyX3, tyX3_ok⟩, nmX3⟩
theorem ck_4 : CK 4 RX4 TX4 6 := ⟨rfl, fun u h => ws_of (inX4 u h).1 (inX4 u h).2, ⟨tyX4, tyX4_ok⟩, nmX4⟩
theorem ck_5 : CK 5 RX7 TX7 6 := ⟨rfl, fun u h => ws_of (inX7 u h).1 (inX7 u h).2, ⟨tyX7, tyX7_ok⟩, nmX7⟩
theorem ck_6 : CK 6 RX8 TX8 10 := ⟨rfl, fun u h => ws_of (inX8 u h).1 (inX8 u h).2, ⟨tyX8, tyX8_ok⟩, nmX8⟩
theorem ck_7 : CK 7 RX9 TX9 7 := ⟨rfl, fun u h => ws_of (inX9 u h).1 (inX9 u h).2, ⟨tyX9, tyX9_ok⟩, nmX9⟩
theorem ck_8 : CK 8 RX10 TX10 13 := ⟨rfl, fun u h => ws_of (inX10 u h).1 (inX10 u h).2, ⟨tyX10, tyX10_ok⟩, nmX10⟩
theorem ck_9 : CK 9 RX11 TX11 59 := ⟨rfl, fun u h => ws_of (inX11 u h).1 (inX11 u h).2, ⟨tyX11, tyX11_ok⟩, nmX11⟩
abbrev mJ6_bitCount_0f7a4 : MI := (yJ6_bitCount_0f7a4, cJ6_bitCount_0f7a4, 1, some .int)
abbrev mX0_admit : MI := (yX0_admit, cX0_admit, 3, some .boolean)
abbrev mX0_find : MI := (yX0_find, cX0_find, 8, some .boolean)
abbrev mX0_init : MI := (yX0_init, cX0_init, 1, none)
abbrev mX0_lay : MI := (yX0_lay, cX0_lay, 5, some .boolean)
abbrev mX0_moved : MI := (yX0_moved, cX0_moved, 4, some .int)
abbrev mX0_smaller : MI := (yX0_smaller, cX0_smaller, 6, some .int)
abbrev mX0_sort : MI := (yX0_sort, cX0_sort, 4, none)
abbrev mX0_systems : MI := (yX0_systems, cX0_systems, 5, some .int)
abbrev mX0_withDartOne : MI := (yX0_withDartOne, cX0_withDartOne, 1, some .int)
abbrev mX10_along : MI := (yX10_along, cX10_along, 5, some .int)
abbrev mX10_append : MI := (yX10_append, cX10_append, 3, none)
abbrev mX10_block : MI := (yX10_block, cX10_block, 3, some .int)
abbrev mX10_canon : MI := (yX10_canon, cX10_canon, 2, some .int)
abbrev mX10_character : MI := (yX10_character, cX10_character, 3, some .int)
abbrev mX10_classes : MI := (yX10_classes, cX10_classes, 6, some .int)
abbrev mX10_code : MI := (yX10_code, cX10_code, 3, some .int)
abbrev mX10_colour : MI := (yX10_colour, cX10_colour, 1, some .boolean)
abbrev mX10_common : MI := (yX10_common, cX10_common, 11, some .long)
abbrev mX10_connected : MI := (yX10_connected, cX10_connected, 1, some .boolean)
abbrev mX10_connectedMaps : MI := (yX10_connectedMaps, cX10_connectedMaps, 4, some .long)
abbrev mX10_count : MI := (yX10_count, cX10_count, 2, some .int)
abbrev mX10_cycles : MI := (yX10_cycles, cX10_cycles, 5, some .int)
abbrev mX10_dartStands : MI := (yX10_dartStands, cX10_dartStands, 2, some .boolean)
abbrev mX10_degree : MI := (yX10_degree, cX10_degree, 3, some .int)
abbrev mX10_drawn : MI := (yX10_drawn, cX10_drawn, 2, some .int)
abbrev mX10_elements : MI := (yX10_elements, cX10_elements, 2, some .int)
abbrev mX10_family : MI := (yX10_family, cX10_family, 3, some .int)
abbrev mX10_feed : MI := (yX10_feed, cX10_feed, 6, some .int)
abbrev mX10_genera : MI := (yX10_genera, cX10_genera, 9, some .long)
abbrev mX10_init : MI := (yX10_init, cX10_init, 2, none)
abbrev mX10_keep : MI := (yX10_keep, cX10_keep, 1, some .int)
abbrev mX10_kindStands : MI := (yX10_kindStands, cX10_kindStands, 2, some .boolean)
abbrev mX10_kinds : MI := (yX10_kinds, cX10_kinds, 3, some .int)
abbrev mX10_label : MI := (yX10_label, cX10_label, 6, some .int)
abbrev mX10_length : MI := (yX10_length, cX10_length, 4, some .int)
abbrev mX10_letter : MI := (yX10_letter, cX10_letter, 2, some .int)
abbrev mX10_made : MI := (yX10_made, cX10_made, 4, some .int)
abbrev mX10_mass : MI := (yX10_mass, cX10_mass, 11, some .long)
abbrev mX10_meet : MI := (yX10_meet, cX10_meet, 7, some .int)
abbrev mX10_ofClass : MI := (yX10_ofClass, cX10_ofClass, 5, some .int)
abbrev mX10_ofType : MI := (yX10_ofType, cX10_ofType, 2, some .int)
abbrev mX10_operate : MI := (yX10_operate, cX10_operate, 4, some .int)
abbrev mX10_part : MI := (yX10_part, cX10_part, 4, some .int)
abbrev mX10_paste : MI := (yX10_paste, cX10_paste, 2, some .int)
abbrev mX10_piece : MI := (yX10_piece, cX10_piece, 4, some .int)
abbrev mX10_point : MI := (yX10_point, cX10_point, 6, some .int)
abbrev mX10_power : MI := (yX10_power, cX10_power, 4, some .int)
abbrev mX10_put : MI := (yX10_put, cX10_put, 3, none)
abbrev mX10_readable : MI := (yX10_readable, cX10_readable, 2, some .boolean)
abbrev mX10_reckon : MI := (yX10_reckon, cX10_reckon, 7, some .int)
abbrev mX10_roots : MI := (yX10_roots, cX10_roots, 8, some .int)
abbrev mX10_same : MI := (yX10_same, cX10_same, 5, some .int)
abbrev mX10_set : MI := (yX10_set, cX10_set, 5, some .int)
abbrev mX10_shuffled : MI := (yX10_shuffled, cX10_shuffled, 4, some .int)
abbrev mX10_siblings : MI := (yX10_siblings, cX10_siblings, 7, some .int)
abbrev mX10_size : MI := (yX10_size, cX10_size, 2, some .int)
abbrev mX10_spelt : MI := (yX10_spelt, cX10_spelt, 5, some .int)
abbrev mX10_take : MI := (yX10_take, cX10_take, 3, some .int)
abbrev mX10_text : MI := (yX10_text, cX10_text, 5, some .int)
abbrev mX10_thirds : MI := (yX10_thirds, cX10_thirds, 7, some .int)
abbrev mX10_tidy : MI := (yX10_tidy, cX10_tidy, 1, some .int)
abbrev mX10_triples : MI := (yX10_triples, cX10_triples, 5, some .long)
abbrev mX10_turn : MI := (yX10_turn, cX10_turn, 2, some .int)
abbrev mX10_type : MI := (yX10_type, cX10_type, 3, some .int)
abbrev mX10_undo : MI := (yX10_undo, cX10_undo, 1, some .int)
abbrev mX10_walk : MI := (yX10_walk, cX10_walk, 4, some .int)
abbrev mX10_way : MI := (yX10_way, cX10_way, 5, some .int)
abbrev mX11_adds : MI := (yX11_adds, cX11_adds, 4, none)
abbrev mX11_along : MI := (yX11_along, cX11_along, 7, some .int)
abbrev mX11_areKinds : MI := (yX11_areKinds, cX11_areKinds, 4, some .boolean)
abbrev mX11_autsOf : MI := (yX11_autsOf, cX11_autsOf, 5, some .int)
abbrev mX11_back : MI := (yX11_back, cX11_back, 3, some .int)
abbrev mX11_becomes : MI := (yX11_becomes, cX11_becomes, 3, none)
abbrev mX11_begins : MI := (yX11_begins, cX11_begins, 2, none)
abbrev mX11_bits : MI := (yX11_bits, cX11_bits, 3, some .int)
abbrev mX11_block : MI := (yX11_block, cX11_block, 4, some .int)
abbrev mX11_bringsTo : MI := (yX11_bringsTo, cX11_bringsTo, 3, some .int)
abbrev mX11_byCharacters : MI := (yX11_byCharacters, cX11_byCharacters, 10, some .long)
abbrev mX11_bySearch : MI := (yX11_bySearch, cX11_bySearch, 9, some .long)
abbrev mX11_canon : MI := (yX11_canon, cX11_canon, 2, some .int)
abbrev mX11_character : MI := (yX11_character, cX11_character, 3, some .int)
abbrev mX11_classes : MI := (yX11_classes, cX11_classes, 7, some .int)
abbrev mX11_code : MI := (yX11_code, cX11_code, 2, some .int)
abbrev mX11_codeOf : MI := (yX11_codeOf, cX11_codeOf, 2, some .int)
abbrev mX11_common : MI := (yX11_common, cX11_common, 10, some .long)
abbrev mX11_count : MI := (yX11_count, cX11_count, 2, some .int)
abbrev mX11_cycleLong : MI := (yX11_cycleLong, cX11_cycleLong, 5, some .int)
abbrev mX11_cycleSet : MI := (yX11_cycleSet, cX11_cycleSet, 5, some .int)
abbrev mX11_cycles : MI := (yX11_cycles, cX11_cycles, 6, some .int)
abbrev mX11_cyclesOf : MI := (yX11_cyclesOf, cX11_cyclesOf, 4, some .int)
abbrev mX11_degree : MI := (yX11_degree, cX11_degree, 3, some .int)
abbrev mX11_draw : MI := (yX11_draw, cX11_draw, 2, some .int)
abbrev mX11_drawn : MI := (yX11_drawn, cX11_drawn, 2, some .int)
abbrev mX11_drawnOne : MI := (yX11_drawnOne, cX11_drawnOne, 4, some .int)
abbrev mX11_elements : MI := (yX11_elements, cX11_elements, 7, some .int)
abbrev mX11_facesOf : MI := (yX11_facesOf, cX11_facesOf, 3, some .int)
abbrev mX11_family : MI := (yX11_family, cX11_family, 6, some .int)
abbrev mX11_feed : MI := (yX11_feed, cX11_feed, 6, some .int)
abbrev mX11_figureOf : MI := (yX11_figureOf, cX11_figureOf, 4, some .int)
abbrev mX11_fits : MI := (yX11_fits, cX11_fits, 3, some .boolean)
abbrev mX11_genera : MI := (yX11_genera, cX11_genera, 8, some .long)
abbrev mX11_genusOf : MI := (yX11_genusOf, cX11_genusOf, 3, some .int)
abbrev mX11_goesOn : MI := (yX11_goesOn, cX11_goesOn, 7, some .boolean)
abbrev mX11_hasText : MI := (yX11_hasText, cX11_hasText, 2, some .boolean)
abbrev mX11_image : MI := (yX11_image, cX11_image, 5, some .int)
abbrev mX11_in : MI := (yX11_in, cX11_in, 3, some .boolean)
abbrev mX11_init : MI := (yX11_init, cX11_init, 1, none)
abbrev mX11_isCode : MI := (yX11_isCode, cX11_isCode, 5, some .boolean)
abbrev mX11_isConnected : MI := (yX11_isConnected, cX11_isConnected, 3, some .boolean)
abbrev mX11_isDart : MI := (yX11_isDart, cX11_isDart, 2, some .boolean)
abbrev mX11_isLeast : MI := (yX11_isLeast, cX11_isLeast, 4, some .boolean)
abbrev mX11_isOne : MI := (yX11_isOne, cX11_isOne, 1, some .boolean)
abbrev mX11_isSystem : MI := (yX11_isSystem, cX11_isSystem, 3, some .boolean)
abbrev mX11_isThree : MI := (yX11_isThree, cX11_isThree, 1, some .boolean)
abbrev mX11_joins : MI := (yX11_joins, cX11_joins, 4, none)
abbrev mX11_keep : MI := (yX11_keep, cX11_keep, 3, some .int)
abbrev mX11_kindOf : MI := (yX11_kindOf, cX11_kindOf, 3, some .int)
abbrev mX11_kindOfCode : MI := (yX11_kindOfCode, cX11_kindOfCode, 2, some .int)
abbrev mX11_kinds : MI := (yX11_kinds, cX11_kinds, 2, some .int)
abbrev mX11_label : MI := (yX11_label, cX11_label, 3, some .int)
abbrev mX11_labelOf : MI := (yX11_labelOf, cX11_labelOf, 4, some .int)
abbrev mX11_laysAll : MI := (yX11_laysAll, cX11_laysAll, 6, none)
abbrev mX11_laysCanon : MI := (yX11_laysCanon, cX11_laysCanon, 6, none)
abbrev mX11_laysClasses : MI := (yX11_laysClasses, cX11_laysClasses, 12, none)
abbrev mX11_laysDigits : MI := (yX11_laysDigits, cX11_laysDigits, 3, none)
abbrev mX11_laysGroup : MI := (yX11_laysGroup, cX11_laysGroup, 6, some .int)
abbrev mX11_length : MI := (yX11_length, cX11_length, 2, some .int)
abbrev mX11_lengthOf : MI := (yX11_lengthOf, cX11_lengthOf, 4, some .int)
abbrev mX11_letterOf : MI := (yX11_letterOf, cX11_letterOf, 2, some .int)
abbrev mX11_lowest : MI := (yX11_lowest, cX11_lowest, 2, some .int)
abbrev mX11_made : MI := (yX11_made, cX11_made, 4, some .int)
abbrev mX11_mass : MI := (yX11_mass, cX11_mass, 9, some .long)
abbrev mX11_meet : MI := (yX11_meet, cX11_meet, 5, some .int)
abbrev mX11_meets : MI := (yX11_meets, cX11_meets, 4, none)
abbrev mX11_numberOf : MI := (yX11_numberOf, cX11_numberOf, 4, some .int)
abbrev mX11_ofType : MI := (yX11_ofType, cX11_ofType, 6, some .int)
abbrev mX11_operate : MI := (yX11_operate, cX11_operate, 2, some .int)
abbrev mX11_operates : MI := (yX11_operates, cX11_operates, 4, none)
abbrev mX11_orderOf : MI := (yX11_orderOf, cX11_orderOf, 5, some .int)
abbrev mX11_part : MI := (yX11_part, cX11_part, 9, some .int)
abbrev mX11_partOf : MI := (yX11_partOf, cX11_partOf, 8, some .int)
abbrev mX11_parts : MI := (yX11_parts, cX11_parts, 3, some .int)
abbrev mX11_paste : MI := (yX11_paste, cX11_paste, 2, some .int)
abbrev mX11_piece : MI := (yX11_piece, cX11_piece, 3, some .int)
abbrev mX11_placeOf : MI := (yX11_placeOf, cX11_placeOf, 5, some .int)
abbrev mX11_point : MI := (yX11_point, cX11_point, 7, some .int)
abbrev mX11_power : MI := (yX11_power, cX11_power, 3, some .int)
abbrev mX11_powerOf : MI := (yX11_powerOf, cX11_powerOf, 5, some .int)
abbrev mX11_puts : MI := (yX11_puts, cX11_puts, 3, none)
abbrev mX11_quotient : MI := (yX11_quotient, cX11_quotient, 5, some .int)
abbrev mX11_reads : MI := (yX11_reads, cX11_reads, 5, none)
abbrev mX11_readsCycle : MI := (yX11_readsCycle, cX11_readsCycle, 9, some .int)
abbrev mX11_readsWord : MI := (yX11_readsWord, cX11_readsWord, 5, some .int)
abbrev mX11_reckon : MI := (yX11_reckon, cX11_reckon, 4, some .int)
abbrev mX11_relabelled : MI := (yX11_relabelled, cX11_relabelled, 4, some .int)
abbrev mX11_roots : MI := (yX11_roots, cX11_roots, 7, some .int)
abbrev mX11_same : MI := (yX11_same, cX11_same, 3, some .int)
abbrev mX11_see : MI := (yX11_see, cX11_see, 1, some .int)
abbrev mX11_set : MI := (yX11_set, cX11_set, 4, some .int)
abbrev mX11_siblings : MI := (yX11_siblings, cX11_siblings, 6, some .int)
abbrev mX11_size : MI := (yX11_size, cX11_size, 3, some .int)
abbrev mX11_stays : MI := (yX11_stays, cX11_stays, 3, some .int)
abbrev mX11_steps : MI := (yX11_steps, cX11_steps, 4, none)
abbrev mX11_symmetric : MI := (yX11_symmetric, cX11_symmetric, 7, some .int)
abbrev mX11_systems : MI := (yX11_systems, cX11_systems, 5, some .int)
abbrev mX11_take : MI := (yX11_take, cX11_take, 3, some .int)
abbrev mX11_text : MI := (yX11_text, cX11_text, 5, some .int)
abbrev mX11_then : MI := (yX11_then, cX11_then, 5, some .int)
abbrev mX11_thirds : MI := (yX11_thirds, cX11_thirds, 7, some .int)
abbrev mX11_tidy : MI := (yX11_tidy, cX11_tidy, 1, some .int)
abbrev mX11_told : MI := (yX11_told, cX11_told, 4, some .int)
abbrev mX11_triples : MI := (yX11_triples, cX11_triples, 8, some .long)
abbrev mX11_type : MI := (yX11_type, cX11_type, 2, some .int)
abbrev mX11_typeOf : MI := (yX11_typeOf, cX11_typeOf, 5, some .int)
abbrev mX11_typed4 : MI := (yX11_typed4, cX11_typed4, 3, none)
abbrev mX11_undo : MI := (yX11_undo, cX11_undo, 3, some .int)
abbrev mX11_valueAt : MI := (yX11_valueAt, cX11_valueAt, 9, some .int)
abbrev mX11_walk : MI := (yX11_walk, cX11_walk, 4, some .int)
abbrev mX11_way : MI := (yX11_way, cX11_way, 5, some .int)
abbrev mX11_wrong : MI := (yX11_wrong, cX11_wrong, 2, none)
abbrev mX1_auts : MI := (yX1_auts, cX1_auts, 2, some .int)
abbrev mX1_belongs : MI := (yX1_belongs, cX1_belongs, 3, some .boolean)
abbrev mX1_found : MI := (yX1_found, cX1_found, 3, some .int)
abbrev mX1_foundConnected : MI := (yX1_foundConnected, cX1_foundConnected, 3, some .int)
abbrev mX1_init : MI := (yX1_init, cX1_init, 1, none)
abbrev mX1_list : MI := (yX1_list, cX1_list, 7, none)
abbrev mX1_open : MI := (yX1_open, cX1_open, 7, none)
abbrev mX1_permutation : MI := (yX1_permutation, cX1_permutation, 2, some .int)
abbrev mX1_prepare : MI := (yX1_prepare, cX1_prepare, 4, none)
abbrev mX1_tally : MI := (yX1_tally, cX1_tally, 6, none)
abbrev mX1_tell : MI := (yX1_tell, cX1_tell, 4, none)
abbrev mX1_white : MI := (yX1_white, cX1_white, 2, some .int)
abbrev mX2_found : MI := (yX2_found, cX2_found, 6, some .int)
abbrev mX2_init : MI := (yX2_init, cX2_init, 1, none)
abbrev mX2_most : MI := (yX2_most, cX2_most, 4, some .int)
abbrev mX2_order : MI := (yX2_order, cX2_order, 7, some .int)
abbrev mX2_sift : MI := (yX2_sift, cX2_sift, 7, none)
abbrev mX3_add : MI := (yX3_add, cX3_add, 4, none)
abbrev mX3_behind : MI := (yX3_behind, cX3_behind, 3, some .boolean)
abbrev mX3_black : MI := (yX3_black, cX3_black, 2, some .int)
abbrev mX3_gather : MI := (yX3_gather, cX3_gather, 9, none)
abbrev mX3_init : MI := (yX3_init, cX3_init, 1, none)
abbrev mX3_sort : MI := (yX3_sort, cX3_sort, 5, none)
abbrev mX3_white : MI := (yX3_white, cX3_white, 2, some .int)
abbrev mX4_add : MI := (yX4_add, cX4_add, 5, none)
abbrev mX4_centre : MI := (yX4_centre, cX4_centre, 3, some .int)
abbrev mX4_fill : MI := (yX4_fill, cX4_fill, 9, none)
abbrev mX4_init : MI := (yX4_init, cX4_init, 1, none)
abbrev mX4_ofKind : MI := (yX4_ofKind, cX4_ofKind, 4, some .int)
abbrev mX4_ofOrder : MI := (yX4_ofOrder, cX4_ofOrder, 4, some .int)
abbrev mX4_turnsTo : MI := (yX4_turnsTo, cX4_turnsTo, 3, some .int)
abbrev mX5_byCharacters : MI := (yX5_byCharacters, cX5_byCharacters, 11, some .long)
abbrev mX5_factorial : MI := (yX5_factorial, cX5_factorial, 1, some .int)
abbrev mX5_index : MI := (yX5_index, cX5_index, 3, some .int)
abbrev mX5_many : MI := (yX5_many, cX5_many, 1, some .int)
abbrev mX5_members : MI := (yX5_members, cX5_members, 6, some .int)
abbrev mX5_nth : MI := (yX5_nth, cX5_nth, 2, some .int)
abbrev mX5_parts : MI := (yX5_parts, cX5_parts, 3, some .int)
abbrev mX5_strips : MI := (yX5_strips, cX5_strips, 10, some .int)
abbrev mX5_value : MI := (yX5_value, cX5_value, 5, some .int)
abbrev mX6_around : MI := (yX6_around, cX6_around, 6, some .int)
abbrev mX6_at : MI := (yX6_at, cX6_at, 2, some .int)
abbrev mX6_back : MI := (yX6_back, cX6_back, 3, some .int)
abbrev mX6_bit : MI := (yX6_bit, cX6_bit, 1, some .int)
abbrev mX6_black : MI := (yX6_black, cX6_black, 3, some .int)
abbrev mX6_darts : MI := (yX6_darts, cX6_darts, 1, some .int)
abbrev mX6_digits : MI := (yX6_digits, cX6_digits, 4, some .int)
abbrev mX6_faces : MI := (yX6_faces, cX6_faces, 2, some .int)
abbrev mX6_genus : MI := (yX6_genus, cX6_genus, 4, some .int)
abbrev mX6_isRoot : MI := (yX6_isRoot, cX6_isRoot, 4, some .boolean)
abbrev mX6_joined : MI := (yX6_joined, cX6_joined, 3, some .boolean)
abbrev mX6_kind : MI := (yX6_kind, cX6_kind, 7, some .int)
abbrev mX6_least : MI := (yX6_least, cX6_least, 7, some .int)
abbrev mX6_leastOfRing : MI := (yX6_leastOfRing, cX6_leastOfRing, 2, some .boolean)
abbrev mX6_lowest : MI := (yX6_lowest, cX6_lowest, 1, some .int)
abbrev mX6_multiple : MI := (yX6_multiple, cX6_multiple, 4, some .int)
abbrev mX6_next : MI := (yX6_next, cX6_next, 7, some .int)
abbrev mX6_nthLeast : MI := (yX6_nthLeast, cX6_nthLeast, 5, some .int)
abbrev mX6_order : MI := (yX6_order, cX6_order, 6, some .int)
abbrev mX6_parts : MI := (yX6_parts, cX6_parts, 6, some .int)
abbrev mX6_rank : MI := (yX6_rank, cX6_rank, 6, some .int)
abbrev mX6_reach : MI := (yX6_reach, cX6_reach, 8, some .int)
abbrev mX6_read : MI := (yX6_read, cX6_read, 7, some .int)
abbrev mX6_relabelled : MI := (yX6_relabelled, cX6_relabelled, 4, some .int)
abbrev mX6_resting : MI := (yX6_resting, cX6_resting, 4, some .int)
abbrev mX6_ring : MI := (yX6_ring, cX6_ring, 5, some .int)
abbrev mX6_rings : MI := (yX6_rings, cX6_rings, 5, some .int)
abbrev mX6_shift : MI := (yX6_shift, cX6_shift, 1, some .int)
abbrev mX6_step : MI := (yX6_step, cX6_step, 5, some .int)
abbrev mX6_swap : MI := (yX6_swap, cX6_swap, 3, some .boolean)
abbrev mX6_swapped : MI := (yX6_swapped, cX6_swapped, 4, some .int)
abbrev mX6_tail : MI := (yX6_tail, cX6_tail, 1, some .int)
abbrev mX6_then : MI := (yX6_then, cX6_then, 4, some .int)
abbrev mX6_times : MI := (yX6_times, cX6_times, 5, some .int)
abbrev mX6_white : MI := (yX6_white, cX6_white, 3, some .int)
abbrev mX7_begin : MI := (yX7_begin, cX7_begin, 2, none)
abbrev mX7_close : MI := (yX7_close, cX7_close, 1, some .int)
abbrev mX7_complete : MI := (yX7_complete, cX7_complete, 1, some .boolean)
abbrev mX7_fault : MI := (yX7_fault, cX7_fault, 2, some .int)
abbrev mX7_init : MI := (yX7_init, cX7_init, 1, none)
abbrev mX7_number : MI := (yX7_number, cX7_number, 2, some .int)
abbrev mX7_permutation : MI := (yX7_permutation, cX7_permutation, 3, some .int)
abbrev mX7_step : MI := (yX7_step, cX7_step, 3, some .int)
abbrev mX8_first : MI := (yX8_first, cX8_first, 7, some .int)
abbrev mX8_gather : MI := (yX8_gather, cX8_gather, 5, none)
abbrev mX8_grow : MI := (yX8_grow, cX8_grow, 10, none)
abbrev mX8_init : MI := (yX8_init, cX8_init, 1, none)
abbrev mX8_laid : MI := (yX8_laid, cX8_laid, 8, some .int)
abbrev mX8_nth : MI := (yX8_nth, cX8_nth, 2, some .int)
abbrev mX8_settle : MI := (yX8_settle, cX8_settle, 6, none)
abbrev mX8_symmetries : MI := (yX8_symmetries, cX8_symmetries, 8, some .int)
abbrev mX9_add : MI := (yX9_add, cX9_add, 4, some .int)
abbrev mX9_become : MI := (yX9_become, cX9_become, 3, none)
abbrev mX9_init : MI := (yX9_init, cX9_init, 1, none)
abbrev mX9_placeOf : MI := (yX9_placeOf, cX9_placeOf, 5, some .int)
theorem mk_J6_bitCount_0f7a4 : MK mJ6_bitCount_0f7a4 1 := ⟨ws_of (List.mem_of_getElem? (i := 527) (by decide +kernel)) (by decide +kernel), ws_of (List.mem_of_getElem? (i := 106) (by decide +kernel)) (by decide +kernel), by decide +kernel, by decide +kernel⟩
theorem mk_X0_admit : MK mX0_admit 1 := ⟨ws_of (List.mem_of_getElem? (i := 665) (by decide +kernel)) (by decide +kernel), ws_of (List.mem_of_getElem? (i := 100) (by decide +kernel)) (by decide +kernel), by decide +kernel, by decide +kernel⟩
theorem mk_X0_find : MK mX0_find 4 := ⟨ws_of (List.mem_of_getElem? (i := 656) (by decide +kernel)) (by decide +kernel), ws_of (List.mem_of_getElem? (i := 100) (by decide +kernel)) (by decide +kernel), by decide +kernel, by decide +kernel⟩
theorem mk_X0_lay : MK mX0_lay 3 := ⟨ws_of (List.mem_of_getElem? (i := 661) (by decide +kernel)) (by decide +kernel), ws_of (List.mem_of_getElem? (i := 100) (by decide +kernel)) (by decide +kernel), by decide +kernel, by decide +kernel⟩
theorem mk_X0_moved : MK mX0_moved 2 := ⟨ws_of (List.mem_of_getElem? (i := 668) (by decide +kernel)) (by decide +kernel), ws_of (List.mem_of_getElem? (i := 100) (by decide +kernel)) (by decide +kernel), by decide +kernel, by decide +kernel⟩
theorem mk_X0_smaller : MK mX0_smaller 1 := ⟨ws_of (List.mem_of_getElem? (i := 838) (by decide +kernel)) (by decide +kernel), ws_of (List.mem_of_getElem? (i := 100) (by decide +kernel)) (by decide +kernel), by decide +kernel, by decide +kernel⟩
theorem mk_X0_sort : MK mX0_sort 0 := ⟨ws_of (List.mem_of_getElem? (i := 674) (by decide +kernel)) (by decide +kernel), ws_of (List.mem_of_getElem? (i := 100) (by decide +kernel)) (by decide +kernel), by decide +kernel, by decide +kernel⟩
theorem mk_X0_systems : MK mX0_systems 3 := ⟨ws_of (List.mem_of_getElem? (i := 652) (by decide +kernel)) (by decide +kernel), ws_of (List.mem_of_getElem? (i := 100) (by decide +kernel)) (by decide +kernel), by decide +kernel, by decide +kernel⟩
theorem mk_X0_withDartOne : MK mX0_withDartOne 0 := ⟨ws_of (List.mem_of_getElem? (i := 834) (by decide +kernel)) (by decide +kernel), ws_of (List.mem_of_getElem? (i := 100) (by decide +kernel)) (by decide +kernel), by decide +kernel, by decide +kernel⟩
theorem mk_X10_along : MK mX10_along 3 := ⟨ws_of (List.mem_of_getElem? (i := 594) (by decide +kernel)) (by decide +kernel), ws_of (List.mem_of_getElem? (i := 95) (by decide +kernel)) (by decide +kernel), by decide +kernel, by decide +kernel⟩
theorem mk_X10_append : MK mX10_append 1 := ⟨ws_of (List.mem_of_getElem? (i := 398) (by decide +kernel)) (by decide +kernel), ws_of (List.mem_of_getElem? (i := 95) (by decide +kernel)) (by decide +kernel), by decide +kernel, by decide +kernel⟩
theorem mk_X10_block : MK mX10_block 2 := ⟨ws_of (List.mem_of_getElem? (i := 829) (by decide +kernel)) (by decide +kernel), ws_of (List.mem_of_getElem? (i := 95) (by decide +kernel)) (by decide +kernel), by decide +kernel, by decide +kernel⟩
theorem mk_X10_canon : MK mX10_canon 1 := ⟨ws_of (List.mem_of_getElem? (i := 743) (by decide +kernel)) (by decide +kernel), ws_of (List.mem_of_getElem? (i := 95) (by decide +kernel)) (by decide +kernel), by decide +kernel, by decide +kernel⟩
theorem mk_X10_character : MK mX10_character 2 := ⟨ws_of (List.mem_of_getElem? (i := 856) (by decide +kernel)) (by decide +kernel), ws_of (List.mem_of_getElem? (i := 95) (by decide +kernel)) (by decide +kernel), by decide +kernel, by decide +kernel⟩
theorem mk_X10_classes : MK mX10_classes 5 := ⟨ws_of (List.mem_of_getElem? (i := 899) (by decide +kernel)) (by decide +kernel), ws_of (List.mem_of_getElem? (i := 95) (by decide +kernel)) (by decide +kernel), by decide +kernel, by decide +kernel⟩
theorem mk_X10_code : MK mX10_code 1 := ⟨ws_of (List.mem_of_getElem? (i := 568) (by decide +kernel)) (by decide +kernel), ws_of (List.mem_of_getElem? (i := 95) (by decide +kernel)) (by decide +kernel), by decide +kernel, by decide +kernel⟩
theorem mk_X10_colour : MK mX10_colour 1 := ⟨ws_of (List.mem_of_getElem? (i := 423) (by decide +kernel)) (by decide +kernel), ws_of (List.mem_of_getElem? (i := 95) (by decide +kernel)) (by decide +kernel), by decide +kernel, by decide +kernel⟩
theorem mk_X10_common : MK mX10_common 2 := ⟨ws_of (List.mem_of_getElem? (i := 911) (by decide +kernel)) (by decide +kernel), ws_of (List.mem_of_getElem? (i := 95) (by decide +kernel)) (by decide +kernel), by decide +kernel, by decide +kernel⟩
theorem mk_X10_connected : MK mX10_connected 0 := ⟨ws_of (List.mem_of_getElem? (i := 621) (by decide +kernel)) (by decide +kernel), ws_of (List.mem_of_getElem? (i := 95) (by decide +kernel)) (by decide +kernel), by decide +kernel, by decide +kernel⟩
theorem mk_X10_connectedMaps : MK mX10_connectedMaps 3 := ⟨ws_of (List.mem_of_getElem? (i := 886) (by decide +kernel)) (by decide +kernel), ws_of (List.mem_of_getElem? (i := 95) (by decide +kernel)) (by decide +kernel), by decide +kernel, by decide +kernel⟩
theorem mk_X10_count : MK mX10_count 1 := ⟨ws_of (List.mem_of_getElem? (i := 611) (by decide +kernel)) (by decide +kernel), ws_of (List.mem_of_getElem? (i := 95) (by decide +kernel)) (by decide +kernel), by decide +kernel, by decide +kernel⟩
theorem mk_X10_cycles : MK mX10_cycles 2 := ⟨ws_of (List.mem_of_getElem? (i := 577) (by decide +kernel)) (by decide +kernel), ws_of (List.mem_of_getElem? (i := 95) (by decide +kernel)) (by decide +kernel), by decide +kernel, by decide +kernel⟩
theorem mk_X10_dartStands : MK mX10_dartStands 1 := ⟨ws_of (List.mem_of_getElem? (i := 598) (by decide +kernel)) (by decide +kernel), ws_of (List.mem_of_getElem? (i := 95) (by decide +kernel)) (by decide +kernel), by decide +kernel, by decide +kernel⟩
theorem mk_X10_degree : MK mX10_degree 1 := ⟨ws_of (List.mem_of_getElem? (i := 402) (by decide +kernel)) (by decide +kernel), ws_of (List.mem_of_getElem? (i := 95) (by decide +kernel)) (by decide +kernel), by decide +kernel, by decide +kernel⟩
theorem mk_X10_drawn : MK mX10_drawn 1 := ⟨ws_of (List.mem_of_getElem? (i := 488) (by decide +kernel)) (by decide +kernel), ws_of (List.mem_of_getElem? (i := 95) (by decide +kernel)) (by decide +kernel), by decide +kernel, by decide +kernel⟩
theorem mk_X10_elements : MK mX10_elements 1 := ⟨ws_of (List.mem_of_getElem? (i := 808) (by decide +kernel)) (by decide +kernel), ws_of (List.mem_of_getElem? (i := 95) (by decide +kernel)) (by decide +kernel), by decide +kernel, by decide +kernel⟩
theorem mk_X10_family : MK mX10_family 2 := ⟨ws_of (List.mem_of_getElem? (i := 926) (by decide +kernel)) (by decide +kernel), ws_of (List.mem_of_getElem? (i := 95) (by decide +kernel)) (by decide +kernel), by decide +kernel, by decide +kernel⟩
theorem mk_X10_feed : MK mX10_feed 5 := ⟨ws_of (List.mem_of_getElem? (i := 394) (by decide +kernel)) (by decide +kernel), ws_of (List.mem_of_getElem? (i := 95) (by decide +kernel)) (by decide +kernel), by decide +kernel, by decide +kernel⟩
theorem mk_X10_genera : MK mX10_genera 3 := ⟨ws_of (List.mem_of_getElem? (i := 915) (by decide +kernel)) (by decide +kernel), ws_of (List.mem_of_getElem? (i := 95) (by decide +kernel)) (by decide +kernel), by decide +kernel, by decide +kernel⟩
theorem mk_X10_keep : MK mX10_keep 0 := ⟨ws_of (List.mem_of_getElem? (i := 1030) (by decide +kernel)) (by decide +kernel), ws_of (List.mem_of_getElem? (i := 95) (by decide +kernel)) (by decide +kernel), by decide +kernel, by decide +kernel⟩
theorem mk_X10_kindStands : MK mX10_kindStands 1 := ⟨ws_of (List.mem_of_getElem? (i := 770) (by decide +kernel)) (by decide +kernel), ws_of (List.mem_of_getElem? (i := 95) (by decide +kernel)) (by decide +kernel), by decide +kernel, by decide +kernel⟩
theorem mk_X10_kinds : MK mX10_kinds 1 := ⟨ws_of (List.mem_of_getElem? (i := 842) (by decide +kernel)) (by decide +kernel), ws_of (List.mem_of_getElem? (i := 95) (by decide +kernel)) (by decide +kernel), by decide +kernel, by decide +kernel⟩
theorem mk_X10_label : MK mX10_label 2 := ⟨ws_of (List.mem_of_getElem? (i := 762) (by decide +kernel)) (by decide +kernel), ws_of (List.mem_of_getElem? (i := 95) (by decide +kernel)) (by decide +kernel), by decide +kernel, by decide +kernel⟩
theorem mk_X10_length : MK mX10_length 1 := ⟨ws_of (List.mem_of_getElem? (i := 824) (by decide +kernel)) (by decide +kernel), ws_of (List.mem_of_getElem? (i := 95) (by decide +kernel)) (by decide +kernel), by decide +kernel, by decide +kernel⟩
theorem mk_X10_letter : MK mX10_letter 1 := ⟨ws_of (List.mem_of_getElem? (i := 966) (by decide +kernel)) (by decide +kernel), ws_of (List.mem_of_getElem? (i := 95) (by decide +kernel)) (by decide +kernel), by decide +kernel, by decide +kernel⟩
theorem mk_X10_made : MK mX10_made 2 := ⟨ws_of (List.mem_of_getElem? (i := 972) (by decide +kernel)) (by decide +kernel), ws_of (List.mem_of_getElem? (i := 95) (by decide +kernel)) (by decide +kernel), by decide +kernel, by decide +kernel⟩
theorem mk_X10_mass : MK mX10_mass 4 := ⟨ws_of (List.mem_of_getElem? (i := 907) (by decide +kernel)) (by decide +kernel), ws_of (List.mem_of_getElem? (i := 95) (by decide +kernel)) (by decide +kernel), by decide +kernel, by decide +kernel⟩
theorem mk_X10_meet : MK mX10_meet 4 := ⟨ws_of (List.mem_of_getElem? (i := 1006) (by decide +kernel)) (by decide +kernel), ws_of (List.mem_of_getElem? (i := 95) (by decide +kernel)) (by decide +kernel), by decide +kernel, by decide +kernel⟩
theorem mk_X10_ofClass : MK mX10_ofClass 4 := ⟨ws_of (List.mem_of_getElem? (i := 903) (by decide +kernel)) (by decide +kernel), ws_of (List.mem_of_getElem? (i := 95) (by decide +kernel)) (by decide +kernel), by decide +kernel, by decide +kernel⟩
theorem mk_X10_ofType : MK mX10_ofType 1 := ⟨ws_of (List.mem_of_getElem? (i := 766) (by decide +kernel)) (by decide +kernel), ws_of (List.mem_of_getElem? (i := 95) (by decide +kernel)) (by decide +kernel), by decide +kernel, by decide +kernel⟩
theorem mk_X10_operate : MK mX10_operate 1 := ⟨ws_of (List.mem_of_getElem? (i := 500) (by decide +kernel)) (by decide +kernel), ws_of (List.mem_of_getElem? (i := 95) (by decide +kernel)) (by decide +kernel), by decide +kernel, by decide +kernel⟩
theorem mk_X10_part : MK mX10_part 2 := ⟨ws_of (List.mem_of_getElem? (i := 737) (by decide +kernel)) (by decide +kernel), ws_of (List.mem_of_getElem? (i := 95) (by decide +kernel)) (by decide +kernel), by decide +kernel, by decide +kernel⟩
theorem mk_X10_paste : MK mX10_paste 0 := ⟨ws_of (List.mem_of_getElem? (i := 1010) (by decide +kernel)) (by decide +kernel), ws_of (List.mem_of_getElem? (i := 95) (by decide +kernel)) (by decide +kernel), by decide +kernel, by decide +kernel⟩
theorem mk_X10_piece : MK mX10_piece 2 := ⟨ws_of (List.mem_of_getElem? (i := 1022) (by decide +kernel)) (by decide +kernel), ws_of (List.mem_of_getElem? (i := 95) (by decide +kernel)) (by decide +kernel), by decide +kernel, by decide +kernel⟩
theorem mk_X10_point : MK mX10_point 3 := ⟨ws_of (List.mem_of_getElem? (i := 747) (by decide +kernel)) (by decide +kernel), ws_of (List.mem_of_getElem? (i := 95) (by decide +kernel)) (by decide +kernel), by decide +kernel, by decide +kernel⟩
theorem mk_X10_power : MK mX10_power 2 := ⟨ws_of (List.mem_of_getElem? (i := 976) (by decide +kernel)) (by decide +kernel), ws_of (List.mem_of_getElem? (i := 95) (by decide +kernel)) (by decide +kernel), by decide +kernel, by decide +kernel⟩
theorem mk_X10_put : MK mX10_put 2 := ⟨ws_of (List.mem_of_getElem? (i := 446) (by decide +kernel)) (by decide +kernel), ws_of (List.mem_of_getElem? (i := 95) (by decide +kernel)) (by decide +kernel), by decide +kernel, by decide +kernel⟩
theorem mk_X10_readable : MK mX10_readable 1 := ⟨ws_of (List.mem_of_getElem? (i := 454) (by decide +kernel)) (by decide +kernel), ws_of (List.mem_of_getElem? (i := 95) (by decide +kernel)) (by decide +kernel), by decide +kernel, by decide +kernel⟩
theorem mk_X10_reckon : MK mX10_reckon 3 := ⟨ws_of (List.mem_of_getElem? (i := 992) (by decide +kernel)) (by decide +kernel), ws_of (List.mem_of_getElem? (i := 95) (by decide +kernel)) (by decide +kernel), by decide +kernel, by decide +kernel⟩
theorem mk_X10_roots : MK mX10_roots 3 := ⟨ws_of (List.mem_of_getElem? (i := 980) (by decide +kernel)) (by decide +kernel), ws_of (List.mem_of_getElem? (i := 95) (by decide +kernel)) (by decide +kernel), by decide +kernel, by decide +kernel⟩
theorem mk_X10_same : MK mX10_same 2 := ⟨ws_of (List.mem_of_getElem? (i := 757) (by decide +kernel)) (by decide +kernel), ws_of (List.mem_of_getElem? (i := 95) (by decide +kernel)) (by decide +kernel), by decide +kernel, by decide +kernel⟩
theorem mk_X10_set : MK mX10_set 2 := ⟨ws_of (List.mem_of_getElem? (i := 407) (by decide +kernel)) (by decide +kernel), ws_of (List.mem_of_getElem? (i := 95) (by decide +kernel)) (by decide +kernel), by decide +kernel, by decide +kernel⟩
theorem mk_X10_shuffled : MK mX10_shuffled 1 := ⟨ws_of (List.mem_of_getElem? (i := 493) (by decide +kernel)) (by decide +kernel), ws_of (List.mem_of_getElem? (i := 95) (by decide +kernel)) (by decide +kernel), by decide +kernel, by decide +kernel⟩
theorem mk_X10_siblings : MK mX10_siblings 0 := ⟨ws_of (List.mem_of_getElem? (i := 689) (by decide +kernel)) (by decide +kernel), ws_of (List.mem_of_getElem? (i := 95) (by decide +kernel)) (by decide +kernel), by decide +kernel, by decide +kernel⟩
theorem mk_X10_size : MK mX10_size 1 := ⟨ws_of (List.mem_of_getElem? (i := 848) (by decide +kernel)) (by decide +kernel), ws_of (List.mem_of_getElem? (i := 95) (by decide +kernel)) (by decide +kernel), by decide +kernel, by decide +kernel⟩
theorem mk_X10_spelt : MK mX10_spelt 1 := ⟨ws_of (List.mem_of_getElem? (i := 962) (by decide +kernel)) (by decide +kernel), ws_of (List.mem_of_getElem? (i := 95) (by decide +kernel)) (by decide +kernel), by decide +kernel, by decide +kernel⟩
theorem mk_X10_take : MK mX10_take 1 := ⟨ws_of (List.mem_of_getElem? (i := 1026) (by decide +kernel)) (by decide +kernel), ws_of (List.mem_of_getElem? (i := 95) (by decide +kernel)) (by decide +kernel), by decide +kernel, by decide +kernel⟩
theorem mk_X10_text : MK mX10_text 2 := ⟨ws_of (List.mem_of_getElem? (i := 450) (by decide +kernel)) (by decide +kernel), ws_of (List.mem_of_getElem? (i := 95) (by decide +kernel)) (by decide +kernel), by decide +kernel, by decide +kernel⟩
theorem mk_X10_thirds : MK mX10_thirds 3 := ⟨ws_of (List.mem_of_getElem? (i := 922) (by decide +kernel)) (by decide +kernel), ws_of (List.mem_of_getElem? (i := 95) (by decide +kernel)) (by decide +kernel), by decide +kernel, by decide +kernel⟩
theorem mk_X10_tidy : MK mX10_tidy 0 := ⟨ws_of (List.mem_of_getElem? (i := 511) (by decide +kernel)) (by decide +kernel), ws_of (List.mem_of_getElem? (i := 95) (by decide +kernel)) (by decide +kernel), by decide +kernel, by decide +kernel⟩
theorem mk_X10_triples : MK mX10_triples 4 := ⟨ws_of (List.mem_of_getElem? (i := 868) (by decide +kernel)) (by decide +kernel), ws_of (List.mem_of_getElem? (i := 95) (by decide +kernel)) (by decide +kernel), by decide +kernel, by decide +kernel⟩
theorem mk_X10_turn : MK mX10_turn 1 := ⟨ws_of (List.mem_of_getElem? (i := 427) (by decide +kernel)) (by decide +kernel), ws_of (List.mem_of_getElem? (i := 95) (by decide +kernel)) (by decide +kernel), by decide +kernel, by decide +kernel⟩
theorem mk_X10_type : MK mX10_type 1 := ⟨ws_of (List.mem_of_getElem? (i := 572) (by decide +kernel)) (by decide +kernel), ws_of (List.mem_of_getElem? (i := 95) (by decide +kernel)) (by decide +kernel), by decide +kernel, by decide +kernel⟩
theorem mk_X10_undo : MK mX10_undo 0 := ⟨ws_of (List.mem_of_getElem? (i := 1038) (by decide +kernel)) (by decide +kernel), ws_of (List.mem_of_getElem? (i := 95) (by decide +kernel)) (by decide +kernel), by decide +kernel, by decide +kernel⟩
theorem mk_X10_walk : MK mX10_walk 2 := ⟨ws_of (List.mem_of_getElem? (i := 958) (by decide +kernel)) (by decide +kernel), ws_of (List.mem_of_getElem? (i := 95) (by decide +kernel)) (by decide +kernel), by decide +kernel, by decide +kernel⟩
theorem mk_X10_way : MK mX10_way 2 := ⟨ws_of (List.mem_of_getElem? (i := 998) (by decide +kernel)) (by decide +kernel), ws_of (List.mem_of_getElem? (i := 95) (by decide +kernel)) (by decide +kernel), by decide +kernel, by decide +kernel⟩
theorem mk_X11_adds : MK mX11_adds 2 := ⟨ws_of (List.mem_of_getElem? (i := 1526) (by decide +kernel)) (by decide +kernel), ws_of (List.mem_of_getElem? (i := 104) (by decide +kernel)) (by decide +kernel), by decide +kernel, by decide +kernel⟩
theorem mk_X11_along : MK mX11_along 3 := ⟨ws_of (List.mem_of_getElem? (i := 1415) (by decide +kernel)) (by decide +kernel), ws_of (List.mem_of_getElem? (i := 104) (by decide +kernel)) (by decide +kernel), by decide +kernel, by decide +kernel⟩
theorem mk_X11_areKinds : MK mX11_areKinds 3 := ⟨ws_of (List.mem_of_getElem? (i := 1534) (by decide +kernel)) (by decide +kernel), ws_of (List.mem_of_getElem? (i := 104) (by decide +kernel)) (by decide +kernel), by decide +kernel, by decide +kernel⟩
theorem mk_X11_autsOf : MK mX11_autsOf 2 := ⟨ws_of (List.mem_of_getElem? (i := 1599) (by decide +kernel)) (by decide +kernel), ws_of (List.mem_of_getElem? (i := 104) (by decide +kernel)) (by decide +kernel), by decide +kernel, by decide +kernel⟩
theorem mk_X11_back : MK mX11_back 1 := ⟨ws_of (List.mem_of_getElem? (i := 1310) (by decide +kernel)) (by decide +kernel), ws_of (List.mem_of_getElem? (i := 104) (by decide +kernel)) (by decide +kernel), by decide +kernel, by decide +kernel⟩
theorem mk_X11_becomes : MK mX11_becomes 1 := ⟨ws_of (List.mem_of_getElem? (i := 1052) (by decide +kernel)) (by decide +kernel), ws_of (List.mem_of_getElem? (i := 104) (by decide +kernel)) (by decide +kernel), by decide +kernel, by decide +kernel⟩
theorem mk_X11_begins : MK mX11_begins 1 := ⟨ws_of (List.mem_of_getElem? (i := 1048) (by decide +kernel)) (by decide +kernel), ws_of (List.mem_of_getElem? (i := 104) (by decide +kernel)) (by decide +kernel), by decide +kernel, by decide +kernel⟩
theorem mk_X11_bits : MK mX11_bits 1 := ⟨ws_of (List.mem_of_getElem? (i := 1430) (by decide +kernel)) (by decide +kernel), ws_of (List.mem_of_getElem? (i := 104) (by decide +kernel)) (by decide +kernel), by decide +kernel, by decide +kernel⟩
theorem mk_X11_block : MK mX11_block 2 := ⟨ws_of (List.mem_of_getElem? (i := 1462) (by decide +kernel)) (by decide +kernel), ws_of (List.mem_of_getElem? (i := 104) (by decide +kernel)) (by decide +kernel), by decide +kernel, by decide +kernel⟩
theorem mk_X11_bringsTo : MK mX11_bringsTo 2 := ⟨ws_of (List.mem_of_getElem? (i := 1411) (by decide +kernel)) (by decide +kernel), ws_of (List.mem_of_getElem? (i := 104) (by decide +kernel)) (by decide +kernel), by decide +kernel, by decide +kernel⟩
theorem mk_X11_byCharacters : MK mX11_byCharacters 3 := ⟨ws_of (List.mem_of_getElem? (i := 1539) (by decide +kernel)) (by decide +kernel), ws_of (List.mem_of_getElem? (i := 104) (by decide +kernel)) (by decide +kernel), by decide +kernel, by decide +kernel⟩
theorem mk_X11_bySearch : MK mX11_bySearch 4 := ⟨ws_of (List.mem_of_getElem? (i := 1543) (by decide +kernel)) (by decide +kernel), ws_of (List.mem_of_getElem? (i := 104) (by decide +kernel)) (by decide +kernel), by decide +kernel, by decide +kernel⟩
theorem mk_X11_canon : MK mX11_canon 1 := ⟨ws_of (List.mem_of_getElem? (i := 1372) (by decide +kernel)) (by decide +kernel), ws_of (List.mem_of_getElem? (i := 104) (by decide +kernel)) (by decide +kernel), by decide +kernel, by decide +kernel⟩
theorem mk_X11_character : MK mX11_character 2 := ⟨ws_of (List.mem_of_getElem? (i := 1509) (by decide +kernel)) (by decide +kernel), ws_of (List.mem_of_getElem? (i := 104) (by decide +kernel)) (by decide +kernel), by decide +kernel, by decide +kernel⟩
theorem mk_X11_classes : MK mX11_classes 5 := ⟨ws_of (List.mem_of_getElem? (i := 1551) (by decide +kernel)) (by decide +kernel), ws_of (List.mem_of_getElem? (i := 104) (by decide +kernel)) (by decide +kernel), by decide +kernel, by decide +kernel⟩
theorem mk_X11_code : MK mX11_code 1 := ⟨ws_of (List.mem_of_getElem? (i := 1391) (by decide +kernel)) (by decide +kernel), ws_of (List.mem_of_getElem? (i := 104) (by decide +kernel)) (by decide +kernel), by decide +kernel, by decide +kernel⟩
theorem mk_X11_codeOf : MK mX11_codeOf 1 := ⟨ws_of (List.mem_of_getElem? (i := 1298) (by decide +kernel)) (by decide +kernel), ws_of (List.mem_of_getElem? (i := 104) (by decide +kernel)) (by decide +kernel), by decide +kernel, by decide +kernel⟩
theorem mk_X11_common : MK mX11_common 2 := ⟨ws_of (List.mem_of_getElem? (i := 1567) (by decide +kernel)) (by decide +kernel), ws_of (List.mem_of_getElem? (i := 104) (by decide +kernel)) (by decide +kernel), by decide +kernel, by decide +kernel⟩
theorem mk_X11_count : MK mX11_count 1 := ⟨ws_of (List.mem_of_getElem? (i := 1591) (by decide +kernel)) (by decide +kernel), ws_of (List.mem_of_getElem? (i := 104) (by decide +kernel)) (by decide +kernel), by decide +kernel, by decide +kernel⟩
theorem mk_X11_cycleLong : MK mX11_cycleLong 2 := ⟨ws_of (List.mem_of_getElem? (i := 1076) (by decide +kernel)) (by decide +kernel), ws_of (List.mem_of_getElem? (i := 104) (by decide +kernel)) (by decide +kernel), by decide +kernel, by decide +kernel⟩
theorem mk_X11_cycleSet : MK mX11_cycleSet 2 := ⟨ws_of (List.mem_of_getElem? (i := 1651) (by decide +kernel)) (by decide +kernel), ws_of (List.mem_of_getElem? (i := 104) (by decide +kernel)) (by decide +kernel), by decide +kernel, by decide +kernel⟩
theorem mk_X11_cycles : MK mX11_cycles 2 := ⟨ws_of (List.mem_of_getElem? (i := 1399) (by decide +kernel)) (by decide +kernel), ws_of (List.mem_of_getElem? (i := 104) (by decide +kernel)) (by decide +kernel), by decide +kernel, by decide +kernel⟩
theorem mk_X11_cyclesOf : MK mX11_cyclesOf 1 := ⟨ws_of (List.mem_of_getElem? (i := 1403) (by decide +kernel)) (by decide +kernel), ws_of (List.mem_of_getElem? (i := 104) (by decide +kernel)) (by decide +kernel), by decide +kernel, by decide +kernel⟩
theorem mk_X11_degree : MK mX11_degree 1 := ⟨ws_of (List.mem_of_getElem? (i := 1279) (by decide +kernel)) (by decide +kernel), ws_of (List.mem_of_getElem? (i := 104) (by decide +kernel)) (by decide +kernel), by decide +kernel, by decide +kernel⟩
theorem mk_X11_draw : MK mX11_draw 1 := ⟨ws_of (List.mem_of_getElem? (i := 1347) (by decide +kernel)) (by decide +kernel), ws_of (List.mem_of_getElem? (i := 104) (by decide +kernel)) (by decide +kernel), by decide +kernel, by decide +kernel⟩
theorem mk_X11_drawn : MK mX11_drawn 1 := ⟨ws_of (List.mem_of_getElem? (i := 1338) (by decide +kernel)) (by decide +kernel), ws_of (List.mem_of_getElem? (i := 104) (by decide +kernel)) (by decide +kernel), by decide +kernel, by decide +kernel⟩
theorem mk_X11_drawnOne : MK mX11_drawnOne 0 := ⟨ws_of (List.mem_of_getElem? (i := 1343) (by decide +kernel)) (by decide +kernel), ws_of (List.mem_of_getElem? (i := 104) (by decide +kernel)) (by decide +kernel), by decide +kernel, by decide +kernel⟩
theorem mk_X11_elements : MK mX11_elements 1 := ⟨ws_of (List.mem_of_getElem? (i := 1450) (by decide +kernel)) (by decide +kernel), ws_of (List.mem_of_getElem? (i := 104) (by decide +kernel)) (by decide +kernel), by decide +kernel, by decide +kernel⟩
theorem mk_X11_facesOf : MK mX11_facesOf 2 := ⟨ws_of (List.mem_of_getElem? (i := 1302) (by decide +kernel)) (by decide +kernel), ws_of (List.mem_of_getElem? (i := 104) (by decide +kernel)) (by decide +kernel), by decide +kernel, by decide +kernel⟩
theorem mk_X11_family : MK mX11_family 2 := ⟨ws_of (List.mem_of_getElem? (i := 1583) (by decide +kernel)) (by decide +kernel), ws_of (List.mem_of_getElem? (i := 104) (by decide +kernel)) (by decide +kernel), by decide +kernel, by decide +kernel⟩
theorem mk_X11_feed : MK mX11_feed 5 := ⟨ws_of (List.mem_of_getElem? (i := 1271) (by decide +kernel)) (by decide +kernel), ws_of (List.mem_of_getElem? (i := 104) (by decide +kernel)) (by decide +kernel), by decide +kernel, by decide +kernel⟩
theorem mk_X11_figureOf : MK mX11_figureOf 1 := ⟨ws_of (List.mem_of_getElem? (i := 1518) (by decide +kernel)) (by decide +kernel), ws_of (List.mem_of_getElem? (i := 104) (by decide +kernel)) (by decide +kernel), by decide +kernel, by decide +kernel⟩
theorem mk_X11_fits : MK mX11_fits 1 := ⟨ws_of (List.mem_of_getElem? (i := 1486) (by decide +kernel)) (by decide +kernel), ws_of (List.mem_of_getElem? (i := 104) (by decide +kernel)) (by decide +kernel), by decide +kernel, by decide +kernel⟩
theorem mk_X11_genera : MK mX11_genera 3 := ⟨ws_of (List.mem_of_getElem? (i := 1571) (by decide +kernel)) (by decide +kernel), ws_of (List.mem_of_getElem? (i := 104) (by decide +kernel)) (by decide +kernel), by decide +kernel, by decide +kernel⟩
theorem mk_X11_genusOf : MK mX11_genusOf 2 := ⟨ws_of (List.mem_of_getElem? (i := 1575) (by decide +kernel)) (by decide +kernel), ws_of (List.mem_of_getElem? (i := 104) (by decide +kernel)) (by decide +kernel), by decide +kernel, by decide +kernel⟩
theorem mk_X11_goesOn : MK mX11_goesOn 1 := ⟨ws_of (List.mem_of_getElem? (i := 1080) (by decide +kernel)) (by decide +kernel), ws_of (List.mem_of_getElem? (i := 104) (by decide +kernel)) (by decide +kernel), by decide +kernel, by decide +kernel⟩
theorem mk_X11_hasText : MK mX11_hasText 1 := ⟨ws_of (List.mem_of_getElem? (i := 1322) (by decide +kernel)) (by decide +kernel), ws_of (List.mem_of_getElem? (i := 104) (by decide +kernel)) (by decide +kernel), by decide +kernel, by decide +kernel⟩
theorem mk_X11_image : MK mX11_image 2 := ⟨ws_of (List.mem_of_getElem? (i := 1482) (by decide +kernel)) (by decide +kernel), ws_of (List.mem_of_getElem? (i := 104) (by decide +kernel)) (by decide +kernel), by decide +kernel, by decide +kernel⟩
theorem mk_X11_in : MK mX11_in 3 := ⟨ws_of (List.mem_of_getElem? (i := 1282) (by decide +kernel)) (by decide +kernel), ws_of (List.mem_of_getElem? (i := 104) (by decide +kernel)) (by decide +kernel), by decide +kernel, by decide +kernel⟩
theorem mk_X11_isCode : MK mX11_isCode 1 := ⟨ws_of (List.mem_of_getElem? (i := 1290) (by decide +kernel)) (by decide +kernel), ws_of (List.mem_of_getElem? (i := 104) (by decide +kernel)) (by decide +kernel), by decide +kernel, by decide +kernel⟩
theorem mk_X11_isConnected : MK mX11_isConnected 2 := ⟨ws_of (List.mem_of_getElem? (i := 1474) (by decide +kernel)) (by decide +kernel), ws_of (List.mem_of_getElem? (i := 104) (by decide +kernel)) (by decide +kernel), by decide +kernel, by decide +kernel⟩
theorem mk_X11_isDart : MK mX11_isDart 1 := ⟨ws_of (List.mem_of_getElem? (i := 1294) (by decide +kernel)) (by decide +kernel), ws_of (List.mem_of_getElem? (i := 104) (by decide +kernel)) (by decide +kernel), by decide +kernel, by decide +kernel⟩
theorem mk_X11_isLeast : MK mX11_isLeast 2 := ⟨ws_of (List.mem_of_getElem? (i := 1068) (by decide +kernel)) (by decide +kernel), ws_of (List.mem_of_getElem? (i := 104) (by decide +kernel)) (by decide +kernel), by decide +kernel, by decide +kernel⟩
theorem mk_X11_isOne : MK mX11_isOne 0 := ⟨ws_of (List.mem_of_getElem? (i := 1470) (by decide +kernel)) (by decide +kernel), ws_of (List.mem_of_getElem? (i := 104) (by decide +kernel)) (by decide +kernel), by decide +kernel, by decide +kernel⟩
theorem mk_X11_isSystem : MK mX11_isSystem 1 := ⟨ws_of (List.mem_of_getElem? (i := 1478) (by decide +kernel)) (by decide +kernel), ws_of (List.mem_of_getElem? (i := 104) (by decide +kernel)) (by decide +kernel), by decide +kernel, by decide +kernel⟩
theorem mk_X11_isThree : MK mX11_isThree 1 := ⟨ws_of (List.mem_of_getElem? (i := 1375) (by decide +kernel)) (by decide +kernel), ws_of (List.mem_of_getElem? (i := 104) (by decide +kernel)) (by decide +kernel), by decide +kernel, by decide +kernel⟩
theorem mk_X11_joins : MK mX11_joins 2 := ⟨ws_of (List.mem_of_getElem? (i := 1587) (by decide +kernel)) (by decide +kernel), ws_of (List.mem_of_getElem? (i := 104) (by decide +kernel)) (by decide +kernel), by decide +kernel, by decide +kernel⟩
theorem mk_X11_keep : MK mX11_keep 0 := ⟨ws_of (List.mem_of_getElem? (i := 1667) (by decide +kernel)) (by decide +kernel), ws_of (List.mem_of_getElem? (i := 104) (by decide +kernel)) (by decide +kernel), by decide +kernel, by decide +kernel⟩
theorem mk_X11_kindOf : MK mX11_kindOf 1 := ⟨ws_of (List.mem_of_getElem? (i := 1084) (by decide +kernel)) (by decide +kernel), ws_of (List.mem_of_getElem? (i := 104) (by decide +kernel)) (by decide +kernel), by decide +kernel, by decide +kernel⟩
theorem mk_X11_kindOfCode : MK mX11_kindOfCode 1 := ⟨ws_of (List.mem_of_getElem? (i := 1547) (by decide +kernel)) (by decide +kernel), ws_of (List.mem_of_getElem? (i := 104) (by decide +kernel)) (by decide +kernel), by decide +kernel, by decide +kernel⟩
theorem mk_X11_kinds : MK mX11_kinds 1 := ⟨ws_of (List.mem_of_getElem? (i := 1501) (by decide +kernel)) (by decide +kernel), ws_of (List.mem_of_getElem? (i := 104) (by decide +kernel)) (by decide +kernel), by decide +kernel, by decide +kernel⟩
theorem mk_X11_label : MK mX11_label 2 := ⟨ws_of (List.mem_of_getElem? (i := 1387) (by decide +kernel)) (by decide +kernel), ws_of (List.mem_of_getElem? (i := 104) (by decide +kernel)) (by decide +kernel), by decide +kernel, by decide +kernel⟩
theorem mk_X11_labelOf : MK mX11_labelOf 2 := ⟨ws_of (List.mem_of_getElem? (i := 1383) (by decide +kernel)) (by decide +kernel), ws_of (List.mem_of_getElem? (i := 104) (by decide +kernel)) (by decide +kernel), by decide +kernel, by decide +kernel⟩
theorem mk_X11_laysAll : MK mX11_laysAll 0 := ⟨ws_of (List.mem_of_getElem? (i := 1056) (by decide +kernel)) (by decide +kernel), ws_of (List.mem_of_getElem? (i := 104) (by decide +kernel)) (by decide +kernel), by decide +kernel, by decide +kernel⟩
theorem mk_X11_laysCanon : MK mX11_laysCanon 2 := ⟨ws_of (List.mem_of_getElem? (i := 1364) (by decide +kernel)) (by decide +kernel), ws_of (List.mem_of_getElem? (i := 104) (by decide +kernel)) (by decide +kernel), by decide +kernel, by decide +kernel⟩
theorem mk_X11_laysClasses : MK mX11_laysClasses 3 := ⟨ws_of (List.mem_of_getElem? (i := 1555) (by decide +kernel)) (by decide +kernel), ws_of (List.mem_of_getElem? (i := 104) (by decide +kernel)) (by decide +kernel), by decide +kernel, by decide +kernel⟩
theorem mk_X11_laysDigits : MK mX11_laysDigits 1 := ⟨ws_of (List.mem_of_getElem? (i := 1522) (by decide +kernel)) (by decide +kernel), ws_of (List.mem_of_getElem? (i := 104) (by decide +kernel)) (by decide +kernel), by decide +kernel, by decide +kernel⟩
theorem mk_X11_laysGroup : MK mX11_laysGroup 2 := ⟨ws_of (List.mem_of_getElem? (i := 1438) (by decide +kernel)) (by decide +kernel), ws_of (List.mem_of_getElem? (i := 104) (by decide +kernel)) (by decide +kernel), by decide +kernel, by decide +kernel⟩
theorem mk_X11_length : MK mX11_length 1 := ⟨ws_of (List.mem_of_getElem? (i := 1454) (by decide +kernel)) (by decide +kernel), ws_of (List.mem_of_getElem? (i := 104) (by decide +kernel)) (by decide +kernel), by decide +kernel, by decide +kernel⟩
theorem mk_X11_lengthOf : MK mX11_lengthOf 1 := ⟨ws_of (List.mem_of_getElem? (i := 1458) (by decide +kernel)) (by decide +kernel), ws_of (List.mem_of_getElem? (i := 104) (by decide +kernel)) (by decide +kernel), by decide +kernel, by decide +kernel⟩
theorem mk_X11_letterOf : MK mX11_letterOf 1 := ⟨ws_of (List.mem_of_getElem? (i := 1615) (by decide +kernel)) (by decide +kernel), ws_of (List.mem_of_getElem? (i := 104) (by decide +kernel)) (by decide +kernel), by decide +kernel, by decide +kernel⟩
theorem mk_X11_lowest : MK mX11_lowest 1 := ⟨ws_of (List.mem_of_getElem? (i := 1497) (by decide +kernel)) (by decide +kernel), ws_of (List.mem_of_getElem? (i := 104) (by decide +kernel)) (by decide +kernel), by decide +kernel, by decide +kernel⟩
theorem mk_X11_made : MK mX11_made 2 := ⟨ws_of (List.mem_of_getElem? (i := 1619) (by decide +kernel)) (by decide +kernel), ws_of (List.mem_of_getElem? (i := 104) (by decide +kernel)) (by decide +kernel), by decide +kernel, by decide +kernel⟩
theorem mk_X11_mass : MK mX11_mass 4 := ⟨ws_of (List.mem_of_getElem? (i := 1563) (by decide +kernel)) (by decide +kernel), ws_of (List.mem_of_getElem? (i := 104) (by decide +kernel)) (by decide +kernel), by decide +kernel, by decide +kernel⟩
theorem mk_X11_meet : MK mX11_meet 4 := ⟨ws_of (List.mem_of_getElem? (i := 1647) (by decide +kernel)) (by decide +kernel), ws_of (List.mem_of_getElem? (i := 104) (by decide +kernel)) (by decide +kernel), by decide +kernel, by decide +kernel⟩
theorem mk_X11_meets : MK mX11_meets 2 := ⟨ws_of (List.mem_of_getElem? (i := 1442) (by decide +kernel)) (by decide +kernel), ws_of (List.mem_of_getElem? (i := 104) (by decide +kernel)) (by decide +kernel), by decide +kernel, by decide +kernel⟩
theorem mk_X11_numberOf : MK mX11_numberOf 1 := ⟨ws_of (List.mem_of_getElem? (i := 1494) (by decide +kernel)) (by decide +kernel), ws_of (List.mem_of_getElem? (i := 104) (by decide +kernel)) (by decide +kernel), by decide +kernel, by decide +kernel⟩
theorem mk_X11_ofType : MK mX11_ofType 1 := ⟨ws_of (List.mem_of_getElem? (i := 1434) (by decide +kernel)) (by decide +kernel), ws_of (List.mem_of_getElem? (i := 104) (by decide +kernel)) (by decide +kernel), by decide +kernel, by decide +kernel⟩
theorem mk_X11_operate : MK mX11_operate 1 := ⟨ws_of (List.mem_of_getElem? (i := 1352) (by decide +kernel)) (by decide +kernel), ws_of (List.mem_of_getElem? (i := 104) (by decide +kernel)) (by decide +kernel), by decide +kernel, by decide +kernel⟩
theorem mk_X11_operates : MK mX11_operates 3 := ⟨ws_of (List.mem_of_getElem? (i := 1356) (by decide +kernel)) (by decide +kernel), ws_of (List.mem_of_getElem? (i := 104) (by decide +kernel)) (by decide +kernel), by decide +kernel, by decide +kernel⟩
theorem mk_X11_orderOf : MK mX11_orderOf 1 := ⟨ws_of (List.mem_of_getElem? (i := 1407) (by decide +kernel)) (by decide +kernel), ws_of (List.mem_of_getElem? (i := 104) (by decide +kernel)) (by decide +kernel), by decide +kernel, by decide +kernel⟩
theorem mk_X11_part : MK mX11_part 2 := ⟨ws_of (List.mem_of_getElem? (i := 1423) (by decide +kernel)) (by decide +kernel), ws_of (List.mem_of_getElem? (i := 104) (by decide +kernel)) (by decide +kernel), by decide +kernel, by decide +kernel⟩
theorem mk_X11_partOf : MK mX11_partOf 3 := ⟨ws_of (List.mem_of_getElem? (i := 1427) (by decide +kernel)) (by decide +kernel), ws_of (List.mem_of_getElem? (i := 104) (by decide +kernel)) (by decide +kernel), by decide +kernel, by decide +kernel⟩
theorem mk_X11_parts : MK mX11_parts 0 := ⟨ws_of (List.mem_of_getElem? (i := 1595) (by decide +kernel)) (by decide +kernel), ws_of (List.mem_of_getElem? (i := 104) (by decide +kernel)) (by decide +kernel), by decide +kernel, by decide +kernel⟩
theorem mk_X11_paste : MK mX11_paste 0 := ⟨ws_of (List.mem_of_getElem? (i := 1655) (by decide +kernel)) (by decide +kernel), ws_of (List.mem_of_getElem? (i := 104) (by decide +kernel)) (by decide +kernel), by decide +kernel, by decide +kernel⟩
theorem mk_X11_piece : MK mX11_piece 2 := ⟨ws_of (List.mem_of_getElem? (i := 1659) (by decide +kernel)) (by decide +kernel), ws_of (List.mem_of_getElem? (i := 104) (by decide +kernel)) (by decide +kernel), by decide +kernel, by decide +kernel⟩
theorem mk_X11_placeOf : MK mX11_placeOf 1 := ⟨ws_of (List.mem_of_getElem? (i := 1446) (by decide +kernel)) (by decide +kernel), ws_of (List.mem_of_getElem? (i := 104) (by decide +kernel)) (by decide +kernel), by decide +kernel, by decide +kernel⟩
theorem mk_X11_point : MK mX11_point 3 := ⟨ws_of (List.mem_of_getElem? (i := 1419) (by decide +kernel)) (by decide +kernel), ws_of (List.mem_of_getElem? (i := 104) (by decide +kernel)) (by decide +kernel), by decide +kernel, by decide +kernel⟩
theorem mk_X11_power : MK mX11_power 2 := ⟨ws_of (List.mem_of_getElem? (i := 1623) (by decide +kernel)) (by decide +kernel), ws_of (List.mem_of_getElem? (i := 104) (by decide +kernel)) (by decide +kernel), by decide +kernel, by decide +kernel⟩
theorem mk_X11_powerOf : MK mX11_powerOf 2 := ⟨ws_of (List.mem_of_getElem? (i := 1627) (by decide +kernel)) (by decide +kernel), ws_of (List.mem_of_getElem? (i := 104) (by decide +kernel)) (by decide +kernel), by decide +kernel, by decide +kernel⟩
theorem mk_X11_puts : MK mX11_puts 2 := ⟨ws_of (List.mem_of_getElem? (i := 1314) (by decide +kernel)) (by decide +kernel), ws_of (List.mem_of_getElem? (i := 104) (by decide +kernel)) (by decide +kernel), by decide +kernel, by decide +kernel⟩
theorem mk_X11_quotient : MK mX11_quotient 1 := ⟨ws_of (List.mem_of_getElem? (i := 1490) (by decide +kernel)) (by decide +kernel), ws_of (List.mem_of_getElem? (i := 104) (by decide +kernel)) (by decide +kernel), by decide +kernel, by decide +kernel⟩
theorem mk_X11_reads : MK mX11_reads 2 := ⟨ws_of (List.mem_of_getElem? (i := 1072) (by decide +kernel)) (by decide +kernel), ws_of (List.mem_of_getElem? (i := 104) (by decide +kernel)) (by decide +kernel), by decide +kernel, by decide +kernel⟩
theorem mk_X11_readsCycle : MK mX11_readsCycle 1 := ⟨ws_of (List.mem_of_getElem? (i := 1334) (by decide +kernel)) (by decide +kernel), ws_of (List.mem_of_getElem? (i := 104) (by decide +kernel)) (by decide +kernel), by decide +kernel, by decide +kernel⟩
theorem mk_X11_readsWord : MK mX11_readsWord 1 := ⟨ws_of (List.mem_of_getElem? (i := 1611) (by decide +kernel)) (by decide +kernel), ws_of (List.mem_of_getElem? (i := 104) (by decide +kernel)) (by decide +kernel), by decide +kernel, by decide +kernel⟩
theorem mk_X11_reckon : MK mX11_reckon 3 := ⟨ws_of (List.mem_of_getElem? (i := 1635) (by decide +kernel)) (by decide +kernel), ws_of (List.mem_of_getElem? (i := 104) (by decide +kernel)) (by decide +kernel), by decide +kernel, by decide +kernel⟩
theorem mk_X11_relabelled : MK mX11_relabelled 2 := ⟨ws_of (List.mem_of_getElem? (i := 1368) (by decide +kernel)) (by decide +kernel), ws_of (List.mem_of_getElem? (i := 104) (by decide +kernel)) (by decide +kernel), by decide +kernel, by decide +kernel⟩
theorem mk_X11_roots : MK mX11_roots 3 := ⟨ws_of (List.mem_of_getElem? (i := 1631) (by decide +kernel)) (by decide +kernel), ws_of (List.mem_of_getElem? (i := 104) (by decide +kernel)) (by decide +kernel), by decide +kernel, by decide +kernel⟩
theorem mk_X11_same : MK mX11_same 2 := ⟨ws_of (List.mem_of_getElem? (i := 1379) (by decide +kernel)) (by decide +kernel), ws_of (List.mem_of_getElem? (i := 104) (by decide +kernel)) (by decide +kernel), by decide +kernel, by decide +kernel⟩
theorem mk_X11_see : MK mX11_see 0 := ⟨ws_of (List.mem_of_getElem? (i := 1326) (by decide +kernel)) (by decide +kernel), ws_of (List.mem_of_getElem? (i := 104) (by decide +kernel)) (by decide +kernel), by decide +kernel, by decide +kernel⟩
theorem mk_X11_set : MK mX11_set 2 := ⟨ws_of (List.mem_of_getElem? (i := 1286) (by decide +kernel)) (by decide +kernel), ws_of (List.mem_of_getElem? (i := 104) (by decide +kernel)) (by decide +kernel), by decide +kernel, by decide +kernel⟩
theorem mk_X11_siblings : MK mX11_siblings 0 := ⟨ws_of (List.mem_of_getElem? (i := 1603) (by decide +kernel)) (by decide +kernel), ws_of (List.mem_of_getElem? (i := 104) (by decide +kernel)) (by decide +kernel), by decide +kernel, by decide +kernel⟩
theorem mk_X11_size : MK mX11_size 1 := ⟨ws_of (List.mem_of_getElem? (i := 1505) (by decide +kernel)) (by decide +kernel), ws_of (List.mem_of_getElem? (i := 104) (by decide +kernel)) (by decide +kernel), by decide +kernel, by decide +kernel⟩
theorem mk_X11_stays : MK mX11_stays 0 := ⟨ws_of (List.mem_of_getElem? (i := 1088) (by decide +kernel)) (by decide +kernel), ws_of (List.mem_of_getElem? (i := 104) (by decide +kernel)) (by decide +kernel), by decide +kernel, by decide +kernel⟩
theorem mk_X11_steps : MK mX11_steps 3 := ⟨ws_of (List.mem_of_getElem? (i := 1643) (by decide +kernel)) (by decide +kernel), ws_of (List.mem_of_getElem? (i := 104) (by decide +kernel)) (by decide +kernel), by decide +kernel, by decide +kernel⟩
theorem mk_X11_symmetric : MK mX11_symmetric 2 := ⟨ws_of (List.mem_of_getElem? (i := 1559) (by decide +kernel)) (by decide +kernel), ws_of (List.mem_of_getElem? (i := 104) (by decide +kernel)) (by decide +kernel), by decide +kernel, by decide +kernel⟩
theorem mk_X11_systems : MK mX11_systems 1 := ⟨ws_of (List.mem_of_getElem? (i := 1466) (by decide +kernel)) (by decide +kernel), ws_of (List.mem_of_getElem? (i := 104) (by decide +kernel)) (by decide +kernel), by decide +kernel, by decide +kernel⟩
theorem mk_X11_take : MK mX11_take 1 := ⟨ws_of (List.mem_of_getElem? (i := 1663) (by decide +kernel)) (by decide +kernel), ws_of (List.mem_of_getElem? (i := 104) (by decide +kernel)) (by decide +kernel), by decide +kernel, by decide +kernel⟩
theorem mk_X11_text : MK mX11_text 2 := ⟨ws_of (List.mem_of_getElem? (i := 1318) (by decide +kernel)) (by decide +kernel), ws_of (List.mem_of_getElem? (i := 104) (by decide +kernel)) (by decide +kernel), by decide +kernel, by decide +kernel⟩
theorem mk_X11_then : MK mX11_then 2 := ⟨ws_of (List.mem_of_getElem? (i := 1306) (by decide +kernel)) (by decide +kernel), ws_of (List.mem_of_getElem? (i := 104) (by decide +kernel)) (by decide +kernel), by decide +kernel, by decide +kernel⟩
theorem mk_X11_thirds : MK mX11_thirds 3 := ⟨ws_of (List.mem_of_getElem? (i := 1579) (by decide +kernel)) (by decide +kernel), ws_of (List.mem_of_getElem? (i := 104) (by decide +kernel)) (by decide +kernel), by decide +kernel, by decide +kernel⟩
theorem mk_X11_tidy : MK mX11_tidy 0 := ⟨ws_of (List.mem_of_getElem? (i := 1360) (by decide +kernel)) (by decide +kernel), ws_of (List.mem_of_getElem? (i := 104) (by decide +kernel)) (by decide +kernel), by decide +kernel, by decide +kernel⟩
theorem mk_X11_told : MK mX11_told 1 := ⟨ws_of (List.mem_of_getElem? (i := 1060) (by decide +kernel)) (by decide +kernel), ws_of (List.mem_of_getElem? (i := 104) (by decide +kernel)) (by decide +kernel), by decide +kernel, by decide +kernel⟩
theorem mk_X11_triples : MK mX11_triples 4 := ⟨ws_of (List.mem_of_getElem? (i := 1530) (by decide +kernel)) (by decide +kernel), ws_of (List.mem_of_getElem? (i := 104) (by decide +kernel)) (by decide +kernel), by decide +kernel, by decide +kernel⟩
theorem mk_X11_type : MK mX11_type 1 := ⟨ws_of (List.mem_of_getElem? (i := 1395) (by decide +kernel)) (by decide +kernel), ws_of (List.mem_of_getElem? (i := 104) (by decide +kernel)) (by decide +kernel), by decide +kernel, by decide +kernel⟩
theorem mk_X11_typeOf : MK mX11_typeOf 1 := ⟨ws_of (List.mem_of_getElem? (i := 1064) (by decide +kernel)) (by decide +kernel), ws_of (List.mem_of_getElem? (i := 104) (by decide +kernel)) (by decide +kernel), by decide +kernel, by decide +kernel⟩
theorem mk_X11_typed4 : MK mX11_typed4 1 := ⟨ws_of (List.mem_of_getElem? (i := 1275) (by decide +kernel)) (by decide +kernel), ws_of (List.mem_of_getElem? (i := 104) (by decide +kernel)) (by decide +kernel), by decide +kernel, by decide +kernel⟩
theorem mk_X11_undo : MK mX11_undo 0 := ⟨ws_of (List.mem_of_getElem? (i := 1671) (by decide +kernel)) (by decide +kernel), ws_of (List.mem_of_getElem? (i := 104) (by decide +kernel)) (by decide +kernel), by decide +kernel, by decide +kernel⟩
theorem mk_X11_valueAt : MK mX11_valueAt 2 := ⟨ws_of (List.mem_of_getElem? (i := 1514) (by decide +kernel)) (by decide +kernel), ws_of (List.mem_of_getElem? (i := 104) (by decide +kernel)) (by decide +kernel), by decide +kernel, by decide +kernel⟩
theorem mk_X11_walk : MK mX11_walk 2 := ⟨ws_of (List.mem_of_getElem? (i := 1607) (by decide +kernel)) (by decide +kernel), ws_of (List.mem_of_getElem? (i := 104) (by decide +kernel)) (by decide +kernel), by decide +kernel, by decide +kernel⟩
theorem mk_X11_way : MK mX11_way 2 := ⟨ws_of (List.mem_of_getElem? (i := 1639) (by decide +kernel)) (by decide +kernel), ws_of (List.mem_of_getElem? (i := 104) (by decide +kernel)) (by decide +kernel), by decide +kernel, by decide +kernel⟩
theorem mk_X11_wrong : MK mX11_wrong 1 := ⟨ws_of (List.mem_of_getElem? (i := 1330) (by decide +kernel)) (by decide +kernel), ws_of (List.mem_of_getElem? (i := 104) (by decide +kernel)) (by decide +kernel), by decide +kernel, by decide +kernel⟩
theorem mk_X1_auts : MK mX1_auts 1 := ⟨ws_of (List.mem_of_getElem? (i := 729) (by decide +kernel)) (by decide +kernel), ws_of (List.mem_of_getElem? (i := 101) (by decide +kernel)) (by decide +kernel), by decide +kernel, by decide +kernel⟩
theorem mk_X1_belongs : MK mX1_belongs 2 := ⟨ws_of (List.mem_of_getElem? (i := 714) (by decide +kernel)) (by decide +kernel), ws_of (List.mem_of_getElem? (i := 101) (by decide +kernel)) (by decide +kernel), by decide +kernel, by decide +kernel⟩
theorem mk_X1_found : MK mX1_found 1 := ⟨ws_of (List.mem_of_getElem? (i := 882) (by decide +kernel)) (by decide +kernel), ws_of (List.mem_of_getElem? (i := 101) (by decide +kernel)) (by decide +kernel), by decide +kernel, by decide +kernel⟩
theorem mk_X1_foundConnected : MK mX1_foundConnected 1 := ⟨ws_of (List.mem_of_getElem? (i := 890) (by decide +kernel)) (by decide +kernel), ws_of (List.mem_of_getElem? (i := 101) (by decide +kernel)) (by decide +kernel), by decide +kernel, by decide +kernel⟩
theorem mk_X1_list : MK mX1_list 5 := ⟨ws_of (List.mem_of_getElem? (i := 693) (by decide +kernel)) (by decide +kernel), ws_of (List.mem_of_getElem? (i := 101) (by decide +kernel)) (by decide +kernel), by decide +kernel, by decide +kernel⟩
theorem mk_X1_open : MK mX1_open 2 := ⟨ws_of (List.mem_of_getElem? (i := 720) (by decide +kernel)) (by decide +kernel), ws_of (List.mem_of_getElem? (i := 101) (by decide +kernel)) (by decide +kernel), by decide +kernel, by decide +kernel⟩
theorem mk_X1_permutation : MK mX1_permutation 1 := ⟨ws_of (List.mem_of_getElem? (i := 985) (by decide +kernel)) (by decide +kernel), ws_of (List.mem_of_getElem? (i := 101) (by decide +kernel)) (by decide +kernel), by decide +kernel, by decide +kernel⟩
theorem mk_X1_prepare : MK mX1_prepare 1 := ⟨ws_of (List.mem_of_getElem? (i := 697) (by decide +kernel)) (by decide +kernel), ws_of (List.mem_of_getElem? (i := 101) (by decide +kernel)) (by decide +kernel), by decide +kernel, by decide +kernel⟩
theorem mk_X1_tally : MK mX1_tally 3 := ⟨ws_of (List.mem_of_getElem? (i := 873) (by decide +kernel)) (by decide +kernel), ws_of (List.mem_of_getElem? (i := 101) (by decide +kernel)) (by decide +kernel), by decide +kernel, by decide +kernel⟩
theorem mk_X1_tell : MK mX1_tell 2 := ⟨ws_of (List.mem_of_getElem? (i := 877) (by decide +kernel)) (by decide +kernel), ws_of (List.mem_of_getElem? (i := 101) (by decide +kernel)) (by decide +kernel), by decide +kernel, by decide +kernel⟩
theorem mk_X1_white : MK mX1_white 1 := ⟨ws_of (List.mem_of_getElem? (i := 733) (by decide +kernel)) (by decide +kernel), ws_of (List.mem_of_getElem? (i := 101) (by decide +kernel)) (by decide +kernel), by decide +kernel, by decide +kernel⟩
theorem mk_X2_found : MK mX2_found 1 := ⟨ws_of (List.mem_of_getElem? (i := 648) (by decide +kernel)) (by decide +kernel), ws_of (List.mem_of_getElem? (i := 98) (by decide +kernel)) (by decide +kernel), by decide +kernel, by decide +kernel⟩
theorem mk_X2_most : MK mX2_most 3 := ⟨ws_of (List.mem_of_getElem? (i := 642) (by decide +kernel)) (by decide +kernel), ws_of (List.mem_of_getElem? (i := 98) (by decide +kernel)) (by decide +kernel), by decide +kernel, by decide +kernel⟩
theorem mk_X2_order : MK mX2_order 3 := ⟨ws_of (List.mem_of_getElem? (i := 632) (by decide +kernel)) (by decide +kernel), ws_of (List.mem_of_getElem? (i := 98) (by decide +kernel)) (by decide +kernel), by decide +kernel, by decide +kernel⟩
theorem mk_X2_sift : MK mX2_sift 2 := ⟨ws_of (List.mem_of_getElem? (i := 636) (by decide +kernel)) (by decide +kernel), ws_of (List.mem_of_getElem? (i := 98) (by decide +kernel)) (by decide +kernel), by decide +kernel, by decide +kernel⟩
theorem mk_X3_add : MK mX3_add 2 := ⟨ws_of (List.mem_of_getElem? (i := 935) (by decide +kernel)) (by decide +kernel), ws_of (List.mem_of_getElem? (i := 102) (by decide +kernel)) (by decide +kernel), by decide +kernel, by decide +kernel⟩
theorem mk_X3_behind : MK mX3_behind 2 := ⟨ws_of (List.mem_of_getElem? (i := 945) (by decide +kernel)) (by decide +kernel), ws_of (List.mem_of_getElem? (i := 102) (by decide +kernel)) (by decide +kernel), by decide +kernel, by decide +kernel⟩
theorem mk_X3_black : MK mX3_black 1 := ⟨ws_of (List.mem_of_getElem? (i := 949) (by decide +kernel)) (by decide +kernel), ws_of (List.mem_of_getElem? (i := 102) (by decide +kernel)) (by decide +kernel), by decide +kernel, by decide +kernel⟩
theorem mk_X3_gather : MK mX3_gather 4 := ⟨ws_of (List.mem_of_getElem? (i := 930) (by decide +kernel)) (by decide +kernel), ws_of (List.mem_of_getElem? (i := 102) (by decide +kernel)) (by decide +kernel), by decide +kernel, by decide +kernel⟩
theorem mk_X3_sort : MK mX3_sort 0 := ⟨ws_of (List.mem_of_getElem? (i := 941) (by decide +kernel)) (by decide +kernel), ws_of (List.mem_of_getElem? (i := 102) (by decide +kernel)) (by decide +kernel), by decide +kernel, by decide +kernel⟩
theorem mk_X3_white : MK mX3_white 1 := ⟨ws_of (List.mem_of_getElem? (i := 954) (by decide +kernel)) (by decide +kernel), ws_of (List.mem_of_getElem? (i := 102) (by decide +kernel)) (by decide +kernel), by decide +kernel, by decide +kernel⟩
theorem mk_X4_add : MK mX4_add 2 := ⟨ws_of (List.mem_of_getElem? (i := 792) (by decide +kernel)) (by decide +kernel), ws_of (List.mem_of_getElem? (i := 99) (by decide +kernel)) (by decide +kernel), by decide +kernel, by decide +kernel⟩
theorem mk_X4_centre : MK mX4_centre 0 := ⟨ws_of (List.mem_of_getElem? (i := 812) (by decide +kernel)) (by decide +kernel), ws_of (List.mem_of_getElem? (i := 99) (by decide +kernel)) (by decide +kernel), by decide +kernel, by decide +kernel⟩
theorem mk_X4_fill : MK mX4_fill 3 := ⟨ws_of (List.mem_of_getElem? (i := 787) (by decide +kernel)) (by decide +kernel), ws_of (List.mem_of_getElem? (i := 99) (by decide +kernel)) (by decide +kernel), by decide +kernel, by decide +kernel⟩
theorem mk_X4_ofKind : MK mX4_ofKind 1 := ⟨ws_of (List.mem_of_getElem? (i := 803) (by decide +kernel)) (by decide +kernel), ws_of (List.mem_of_getElem? (i := 99) (by decide +kernel)) (by decide +kernel), by decide +kernel, by decide +kernel⟩
theorem mk_X4_ofOrder : MK mX4_ofOrder 1 := ⟨ws_of (List.mem_of_getElem? (i := 819) (by decide +kernel)) (by decide +kernel), ws_of (List.mem_of_getElem? (i := 99) (by decide +kernel)) (by decide +kernel), by decide +kernel, by decide +kernel⟩
theorem mk_X4_turnsTo : MK mX4_turnsTo 1 := ⟨ws_of (List.mem_of_getElem? (i := 798) (by decide +kernel)) (by decide +kernel), ws_of (List.mem_of_getElem? (i := 99) (by decide +kernel)) (by decide +kernel), by decide +kernel, by decide +kernel⟩
theorem mk_X5_byCharacters : MK mX5_byCharacters 4 := ⟨ws_of (List.mem_of_getElem? (i := 893) (by decide +kernel)) (by decide +kernel), ws_of (List.mem_of_getElem? (i := 107) (by decide +kernel)) (by decide +kernel), by decide +kernel, by decide +kernel⟩
theorem mk_X5_factorial : MK mX5_factorial 1 := ⟨ws_of (List.mem_of_getElem? (i := 700) (by decide +kernel)) (by decide +kernel), ws_of (List.mem_of_getElem? (i := 107) (by decide +kernel)) (by decide +kernel), by decide +kernel, by decide +kernel⟩
theorem mk_X5_index : MK mX5_index 2 := ⟨ws_of (List.mem_of_getElem? (i := 773) (by decide +kernel)) (by decide +kernel), ws_of (List.mem_of_getElem? (i := 107) (by decide +kernel)) (by decide +kernel), by decide +kernel, by decide +kernel⟩
theorem mk_X5_many : MK mX5_many 1 := ⟨ws_of (List.mem_of_getElem? (i := 776) (by decide +kernel)) (by decide +kernel), ws_of (List.mem_of_getElem? (i := 107) (by decide +kernel)) (by decide +kernel), by decide +kernel, by decide +kernel⟩
theorem mk_X5_members : MK mX5_members 2 := ⟨ws_of (List.mem_of_getElem? (i := 851) (by decide +kernel)) (by decide +kernel), ws_of (List.mem_of_getElem? (i := 107) (by decide +kernel)) (by decide +kernel), by decide +kernel, by decide +kernel⟩
theorem mk_X5_nth : MK mX5_nth 2 := ⟨ws_of (List.mem_of_getElem? (i := 781) (by decide +kernel)) (by decide +kernel), ws_of (List.mem_of_getElem? (i := 107) (by decide +kernel)) (by decide +kernel), by decide +kernel, by decide +kernel⟩
theorem mk_X5_parts : MK mX5_parts 1 := ⟨ws_of (List.mem_of_getElem? (i := 918) (by decide +kernel)) (by decide +kernel), ws_of (List.mem_of_getElem? (i := 107) (by decide +kernel)) (by decide +kernel), by decide +kernel, by decide +kernel⟩
theorem mk_X5_strips : MK mX5_strips 3 := ⟨ws_of (List.mem_of_getElem? (i := 862) (by decide +kernel)) (by decide +kernel), ws_of (List.mem_of_getElem? (i := 107) (by decide +kernel)) (by decide +kernel), by decide +kernel, by decide +kernel⟩
theorem mk_X5_value : MK mX5_value 2 := ⟨ws_of (List.mem_of_getElem? (i := 859) (by decide +kernel)) (by decide +kernel), ws_of (List.mem_of_getElem? (i := 107) (by decide +kernel)) (by decide +kernel), by decide +kernel, by decide +kernel⟩
theorem mk_X6_around : MK mX6_around 3 := ⟨ws_of (List.mem_of_getElem? (i := 1002) (by decide +kernel)) (by decide +kernel), ws_of (List.mem_of_getElem? (i := 105) (by decide +kernel)) (by decide +kernel), by decide +kernel, by decide +kernel⟩
theorem mk_X6_at : MK mX6_at 2 := ⟨ws_of (List.mem_of_getElem? (i := 436) (by decide +kernel)) (by decide +kernel), ws_of (List.mem_of_getElem? (i := 105) (by decide +kernel)) (by decide +kernel), by decide +kernel, by decide +kernel⟩
theorem mk_X6_back : MK mX6_back 1 := ⟨ws_of (List.mem_of_getElem? (i := 439) (by decide +kernel)) (by decide +kernel), ws_of (List.mem_of_getElem? (i := 105) (by decide +kernel)) (by decide +kernel), by decide +kernel, by decide +kernel⟩
theorem mk_X6_bit : MK mX6_bit 1 := ⟨ws_of (List.mem_of_getElem? (i := 420) (by decide +kernel)) (by decide +kernel), ws_of (List.mem_of_getElem? (i := 105) (by decide +kernel)) (by decide +kernel), by decide +kernel, by decide +kernel⟩
theorem mk_X6_black : MK mX6_black 3 := ⟨ws_of (List.mem_of_getElem? (i := 503) (by decide +kernel)) (by decide +kernel), ws_of (List.mem_of_getElem? (i := 105) (by decide +kernel)) (by decide +kernel), by decide +kernel, by decide +kernel⟩
theorem mk_X6_darts : MK mX6_darts 1 := ⟨ws_of (List.mem_of_getElem? (i := 521) (by decide +kernel)) (by decide +kernel), ws_of (List.mem_of_getElem? (i := 105) (by decide +kernel)) (by decide +kernel), by decide +kernel, by decide +kernel⟩
theorem mk_X6_digits : MK mX6_digits 2 := ⟨ws_of (List.mem_of_getElem? (i := 442) (by decide +kernel)) (by decide +kernel), ws_of (List.mem_of_getElem? (i := 105) (by decide +kernel)) (by decide +kernel), by decide +kernel, by decide +kernel⟩
theorem mk_X6_faces : MK mX6_faces 2 := ⟨ws_of (List.mem_of_getElem? (i := 430) (by decide +kernel)) (by decide +kernel), ws_of (List.mem_of_getElem? (i := 105) (by decide +kernel)) (by decide +kernel), by decide +kernel, by decide +kernel⟩
theorem mk_X6_genus : MK mX6_genus 3 := ⟨ws_of (List.mem_of_getElem? (i := 627) (by decide +kernel)) (by decide +kernel), ws_of (List.mem_of_getElem? (i := 105) (by decide +kernel)) (by decide +kernel), by decide +kernel, by decide +kernel⟩
theorem mk_X6_isRoot : MK mX6_isRoot 3 := ⟨ws_of (List.mem_of_getElem? (i := 988) (by decide +kernel)) (by decide +kernel), ws_of (List.mem_of_getElem? (i := 105) (by decide +kernel)) (by decide +kernel), by decide +kernel, by decide +kernel⟩
theorem mk_X6_joined : MK mX6_joined 3 := ⟨ws_of (List.mem_of_getElem? (i := 624) (by decide +kernel)) (by decide +kernel), ws_of (List.mem_of_getElem? (i := 105) (by decide +kernel)) (by decide +kernel), by decide +kernel, by decide +kernel⟩
theorem mk_X6_kind : MK mX6_kind 2 := ⟨ws_of (List.mem_of_getElem? (i := 518) (by decide +kernel)) (by decide +kernel), ws_of (List.mem_of_getElem? (i := 105) (by decide +kernel)) (by decide +kernel), by decide +kernel, by decide +kernel⟩
theorem mk_X6_least : MK mX6_least 2 := ⟨ws_of (List.mem_of_getElem? (i := 536) (by decide +kernel)) (by decide +kernel), ws_of (List.mem_of_getElem? (i := 105) (by decide +kernel)) (by decide +kernel), by decide +kernel, by decide +kernel⟩
theorem mk_X6_leastOfRing : MK mX6_leastOfRing 2 := ⟨ws_of (List.mem_of_getElem? (i := 753) (by decide +kernel)) (by decide +kernel), ws_of (List.mem_of_getElem? (i := 105) (by decide +kernel)) (by decide +kernel), by decide +kernel, by decide +kernel⟩
theorem mk_X6_lowest : MK mX6_lowest 1 := ⟨ws_of (List.mem_of_getElem? (i := 524) (by decide +kernel)) (by decide +kernel), ws_of (List.mem_of_getElem? (i := 105) (by decide +kernel)) (by decide +kernel), by decide +kernel, by decide +kernel⟩
theorem mk_X6_multiple : MK mX6_multiple 2 := ⟨ws_of (List.mem_of_getElem? (i := 590) (by decide +kernel)) (by decide +kernel), ws_of (List.mem_of_getElem? (i := 105) (by decide +kernel)) (by decide +kernel), by decide +kernel, by decide +kernel⟩
theorem mk_X6_next : MK mX6_next 2 := ⟨ws_of (List.mem_of_getElem? (i := 707) (by decide +kernel)) (by decide +kernel), ws_of (List.mem_of_getElem? (i := 105) (by decide +kernel)) (by decide +kernel), by decide +kernel, by decide +kernel⟩
theorem mk_X6_nthLeast : MK mX6_nthLeast 3 := ⟨ws_of (List.mem_of_getElem? (i := 750) (by decide +kernel)) (by decide +kernel), ws_of (List.mem_of_getElem? (i := 105) (by decide +kernel)) (by decide +kernel), by decide +kernel, by decide +kernel⟩
theorem mk_X6_order : MK mX6_order 2 := ⟨ws_of (List.mem_of_getElem? (i := 587) (by decide +kernel)) (by decide +kernel), ws_of (List.mem_of_getElem? (i := 105) (by decide +kernel)) (by decide +kernel), by decide +kernel, by decide +kernel⟩
theorem mk_X6_parts : MK mX6_parts 3 := ⟨ws_of (List.mem_of_getElem? (i := 614) (by decide +kernel)) (by decide +kernel), ws_of (List.mem_of_getElem? (i := 105) (by decide +kernel)) (by decide +kernel), by decide +kernel, by decide +kernel⟩
theorem mk_X6_rank : MK mX6_rank 2 := ⟨ws_of (List.mem_of_getElem? (i := 725) (by decide +kernel)) (by decide +kernel), ws_of (List.mem_of_getElem? (i := 105) (by decide +kernel)) (by decide +kernel), by decide +kernel, by decide +kernel⟩
theorem mk_X6_reach : MK mX6_reach 3 := ⟨ws_of (List.mem_of_getElem? (i := 617) (by decide +kernel)) (by decide +kernel), ws_of (List.mem_of_getElem? (i := 105) (by decide +kernel)) (by decide +kernel), by decide +kernel, by decide +kernel⟩
theorem mk_X6_read : MK mX6_read 2 := ⟨ws_of (List.mem_of_getElem? (i := 410) (by decide +kernel)) (by decide +kernel), ws_of (List.mem_of_getElem? (i := 105) (by decide +kernel)) (by decide +kernel), by decide +kernel, by decide +kernel⟩
theorem mk_X6_relabelled : MK mX6_relabelled 2 := ⟨ws_of (List.mem_of_getElem? (i := 564) (by decide +kernel)) (by decide +kernel), ws_of (List.mem_of_getElem? (i := 105) (by decide +kernel)) (by decide +kernel), by decide +kernel, by decide +kernel⟩
theorem mk_X6_resting : MK mX6_resting 2 := ⟨ws_of (List.mem_of_getElem? (i := 584) (by decide +kernel)) (by decide +kernel), ws_of (List.mem_of_getElem? (i := 105) (by decide +kernel)) (by decide +kernel), by decide +kernel, by decide +kernel⟩
theorem mk_X6_ring : MK mX6_ring 2 := ⟨ws_of (List.mem_of_getElem? (i := 533) (by decide +kernel)) (by decide +kernel), ws_of (List.mem_of_getElem? (i := 105) (by decide +kernel)) (by decide +kernel), by decide +kernel, by decide +kernel⟩
theorem mk_X6_rings : MK mX6_rings 2 := ⟨ws_of (List.mem_of_getElem? (i := 581) (by decide +kernel)) (by decide +kernel), ws_of (List.mem_of_getElem? (i := 105) (by decide +kernel)) (by decide +kernel), by decide +kernel, by decide +kernel⟩
theorem mk_X6_shift : MK mX6_shift 1 := ⟨ws_of (List.mem_of_getElem? (i := 417) (by decide +kernel)) (by decide +kernel), ws_of (List.mem_of_getElem? (i := 105) (by decide +kernel)) (by decide +kernel), by decide +kernel, by decide +kernel⟩
theorem mk_X6_step : MK mX6_step 3 := ⟨ws_of (List.mem_of_getElem? (i := 606) (by decide +kernel)) (by decide +kernel), ws_of (List.mem_of_getElem? (i := 105) (by decide +kernel)) (by decide +kernel), by decide +kernel, by decide +kernel⟩
theorem mk_X6_swap : MK mX6_swap 2 := ⟨ws_of (List.mem_of_getElem? (i := 815) (by decide +kernel)) (by decide +kernel), ws_of (List.mem_of_getElem? (i := 105) (by decide +kernel)) (by decide +kernel), by decide +kernel, by decide +kernel⟩
theorem mk_X6_swapped : MK mX6_swapped 3 := ⟨ws_of (List.mem_of_getElem? (i := 496) (by decide +kernel)) (by decide +kernel), ws_of (List.mem_of_getElem? (i := 105) (by decide +kernel)) (by decide +kernel), by decide +kernel, by decide +kernel⟩
theorem mk_X6_tail : MK mX6_tail 1 := ⟨ws_of (List.mem_of_getElem? (i := 413) (by decide +kernel)) (by decide +kernel), ws_of (List.mem_of_getElem? (i := 105) (by decide +kernel)) (by decide +kernel), by decide +kernel, by decide +kernel⟩
theorem mk_X6_then : MK mX6_then 2 := ⟨ws_of (List.mem_of_getElem? (i := 433) (by decide +kernel)) (by decide +kernel), ws_of (List.mem_of_getElem? (i := 105) (by decide +kernel)) (by decide +kernel), by decide +kernel, by decide +kernel⟩
theorem mk_X6_times : MK mX6_times 2 := ⟨ws_of (List.mem_of_getElem? (i := 603) (by decide +kernel)) (by decide +kernel), ws_of (List.mem_of_getElem? (i := 105) (by decide +kernel)) (by decide +kernel), by decide +kernel, by decide +kernel⟩
theorem mk_X6_white : MK mX6_white 3 := ⟨ws_of (List.mem_of_getElem? (i := 507) (by decide +kernel)) (by decide +kernel), ws_of (List.mem_of_getElem? (i := 105) (by decide +kernel)) (by decide +kernel), by decide +kernel, by decide +kernel⟩
theorem mk_X7_begin : MK mX7_begin 1 := ⟨ws_of (List.mem_of_getElem? (i := 458) (by decide +kernel)) (by decide +kernel), ws_of (List.mem_of_getElem? (i := 103) (by decide +kernel)) (by decide +kernel), by decide +kernel, by decide +kernel⟩
theorem mk_X7_close : MK mX7_close 0 := ⟨ws_of (List.mem_of_getElem? (i := 470) (by decide +kernel)) (by decide +kernel), ws_of (List.mem_of_getElem? (i := 103) (by decide +kernel)) (by decide +kernel), by decide +kernel, by decide +kernel⟩
theorem mk_X7_complete : MK mX7_complete 0 := ⟨ws_of (List.mem_of_getElem? (i := 480) (by decide +kernel)) (by decide +kernel), ws_of (List.mem_of_getElem? (i := 103) (by decide +kernel)) (by decide +kernel), by decide +kernel, by decide +kernel⟩
theorem mk_X7_fault : MK mX7_fault 1 := ⟨ws_of (List.mem_of_getElem? (i := 462) (by decide +kernel)) (by decide +kernel), ws_of (List.mem_of_getElem? (i := 103) (by decide +kernel)) (by decide +kernel), by decide +kernel, by decide +kernel⟩
theorem mk_X7_number : MK mX7_number 1 := ⟨ws_of (List.mem_of_getElem? (i := 475) (by decide +kernel)) (by decide +kernel), ws_of (List.mem_of_getElem? (i := 103) (by decide +kernel)) (by decide +kernel), by decide +kernel, by decide +kernel⟩
theorem mk_X7_permutation : MK mX7_permutation 0 := ⟨ws_of (List.mem_of_getElem? (i := 484) (by decide +kernel)) (by decide +kernel), ws_of (List.mem_of_getElem? (i := 103) (by decide +kernel)) (by decide +kernel), by decide +kernel, by decide +kernel⟩
theorem mk_X7_step : MK mX7_step 2 := ⟨ws_of (List.mem_of_getElem? (i := 466) (by decide +kernel)) (by decide +kernel), ws_of (List.mem_of_getElem? (i := 103) (by decide +kernel)) (by decide +kernel), by decide +kernel, by decide +kernel⟩
theorem mk_X8_first : MK mX8_first 5 := ⟨ws_of (List.mem_of_getElem? (i := 685) (by decide +kernel)) (by decide +kernel), ws_of (List.mem_of_getElem? (i := 97) (by decide +kernel)) (by decide +kernel), by decide +kernel, by decide +kernel⟩
theorem mk_X8_gather : MK mX8_gather 3 := ⟨ws_of (List.mem_of_getElem? (i := 540) (by decide +kernel)) (by decide +kernel), ws_of (List.mem_of_getElem? (i := 97) (by decide +kernel)) (by decide +kernel), by decide +kernel, by decide +kernel⟩
theorem mk_X8_grow : MK mX8_grow 5 := ⟨ws_of (List.mem_of_getElem? (i := 546) (by decide +kernel)) (by decide +kernel), ws_of (List.mem_of_getElem? (i := 97) (by decide +kernel)) (by decide +kernel), by decide +kernel, by decide +kernel⟩
theorem mk_X8_laid : MK mX8_laid 3 := ⟨ws_of (List.mem_of_getElem? (i := 553) (by decide +kernel)) (by decide +kernel), ws_of (List.mem_of_getElem? (i := 97) (by decide +kernel)) (by decide +kernel), by decide +kernel, by decide +kernel⟩
theorem mk_X8_nth : MK mX8_nth 1 := ⟨ws_of (List.mem_of_getElem? (i := 560) (by decide +kernel)) (by decide +kernel), ws_of (List.mem_of_getElem? (i := 97) (by decide +kernel)) (by decide +kernel), by decide +kernel, by decide +kernel⟩
theorem mk_X8_settle : MK mX8_settle 3 := ⟨ws_of (List.mem_of_getElem? (i := 515) (by decide +kernel)) (by decide +kernel), ws_of (List.mem_of_getElem? (i := 97) (by decide +kernel)) (by decide +kernel), by decide +kernel, by decide +kernel⟩
theorem mk_X8_symmetries : MK mX8_symmetries 3 := ⟨ws_of (List.mem_of_getElem? (i := 679) (by decide +kernel)) (by decide +kernel), ws_of (List.mem_of_getElem? (i := 97) (by decide +kernel)) (by decide +kernel), by decide +kernel, by decide +kernel⟩
theorem mk_X9_add : MK mX9_add 3 := ⟨ws_of (List.mem_of_getElem? (i := 1018) (by decide +kernel)) (by decide +kernel), ws_of (List.mem_of_getElem? (i := 96) (by decide +kernel)) (by decide +kernel), by decide +kernel, by decide +kernel⟩
theorem mk_X9_become : MK mX9_become 1 := ⟨ws_of (List.mem_of_getElem? (i := 1034) (by decide +kernel)) (by decide +kernel), ws_of (List.mem_of_getElem? (i := 96) (by decide +kernel)) (by decide +kernel), by decide +kernel, by decide +kernel⟩
theorem mk_X9_placeOf : MK mX9_placeOf 3 := ⟨ws_of (List.mem_of_getElem? (i := 1014) (by decide +kernel)) (by decide +kernel), ws_of (List.mem_of_getElem? (i := 96) (by decide +kernel)) (by decide +kernel), by decide +kernel, by decide +kernel⟩
theorem lk_RL_13 : LKv RL 13 mX10_feed 5 8 := ⟨mk_X10_feed, ws_of (List.mem_of_getElem? (i := 391) (by decide +kernel)) (by decide +kernel), ws_of (List.mem_of_getElem? (i := 392) (by decide +kernel)) (by decide +kernel), ws_of (List.mem_of_getElem? (i := 393) (by decide +kernel)) (by decide +kernel), _, _, rfl⟩
theorem lk_RL_17 : LKv RL 17 mX11_feed 5 9 := ⟨mk_X11_feed, ws_of (List.mem_of_getElem? (i := 1268) (by decide +kernel)) (by decide +kernel), ws_of (List.mem_of_getElem? (i := 1269) (by decide +kernel)) (by decide +kernel), ws_of (List.mem_of_getElem? (i := 1270) (by decide +kernel)) (by decide +kernel), _, _, rfl⟩
theorem lk_RL_18 : LKv RL 18 mX10_degree 1 8 := ⟨mk_X10_degree, ws_of (List.mem_of_getElem? (i := 399) (by decide +kernel)) (by decide +kernel), ws_of (List.mem_of_getElem? (i := 400) (by decide +kernel)) (by decide +kernel), ws_of (List.mem_of_getElem? (i := 401) (by decide +kernel)) (by decide +kernel), _, _, rfl⟩
theorem lk_RL_22 : LKv RL 22 mX11_degree 1 9 := ⟨mk_X11_degree, ws_of (List.mem_of_getElem? (i := 1276) (by decide +kernel)) (by decide +kernel), ws_of (List.mem_of_getElem? (i := 1277) (by decide +kernel)) (by decide +kernel), ws_of (List.mem_of_getElem? (i := 1278) (by decide +kernel)) (by decide +kernel), _, _, rfl⟩
theorem lk_RL_23 : LKv RL 23 mX10_set 2 8 := ⟨mk_X10_set, ws_of (List.mem_of_getElem? (i := 404) (by decide +kernel)) (by decide +kernel), ws_of (List.mem_of_getElem? (i := 405) (by decide +kernel)) (by decide +kernel), ws_of (List.mem_of_getElem? (i := 406) (by decide +kernel)) (by decide +kernel), _, _, rfl⟩
theorem lk_RL_27 : LKv RL 27 mX11_set 2 9 := ⟨mk_X11_set, ws_of (List.mem_of_getElem? (i := 1283) (by decide +kernel)) (by decide +kernel), ws_of (List.mem_of_getElem? (i := 1284) (by decide +kernel)) (by decide +kernel), ws_of (List.mem_of_getElem? (i := 1285) (by decide +kernel)) (by decide +kernel), _, _, rfl⟩
theorem lk_RL_28 : LKv RL 28 mX10_text 2 8 := ⟨mk_X10_text, ws_of (List.mem_of_getElem? (i := 447) (by decide +kernel)) (by decide +kernel), ws_of (List.mem_of_getElem? (i := 448) (by decide +kernel)) (by decide +kernel), ws_of (List.mem_of_getElem? (i := 449) (by decide +kernel)) (by decide +kernel), _, _, rfl⟩
theorem lk_RL_31 : LKv RL 31 mX11_text 2 9 := ⟨mk_X11_text, ws_of (List.mem_of_getElem? (i := 1315) (by decide +kernel)) (by decide +kernel), ws_of (List.mem_of_getElem? (i := 1316) (by decide +kernel)) (by decide +kernel), ws_of (List.mem_of_getElem? (i := 1317) (by decide +kernel)) (by decide +kernel), _, _, rfl⟩
theorem lk_RL_32 : LKv RL 32 mX10_drawn 1 8 := ⟨mk_X10_drawn, ws_of (List.mem_of_getElem? (i := 485) (by decide +kernel)) (by decide +kernel), ws_of (List.mem_of_getElem? (i := 486) (by decide +kernel)) (by decide +kernel), ws_of (List.mem_of_getElem? (i := 487) (by decide +kernel)) (by decide +kernel), _, _, rfl⟩
theorem lk_RL_35 : LKv RL 35 mX11_drawn 1 9 := ⟨mk_X11_drawn, ws_of (List.mem_of_getElem? (i := 1335) (by decide +kernel)) (by decide +kernel), ws_of (List.mem_of_getElem? (i := 1336) (by decide +kernel)) (by decide +kernel), ws_of (List.mem_of_getElem? (i := 1337) (by decide +kernel)) (by decide +kernel), _, _, rfl⟩
theorem lk_RL_36 : LKv RL 36 mX10_operate 1 8 := ⟨mk_X10_operate, ws_of (List.mem_of_getElem? (i := 497) (by decide +kernel)) (by decide +kernel), ws_of (List.mem_of_getElem? (i := 498) (by decide +kernel)) (by decide +kernel), ws_of (List.mem_of_getElem? (i := 499) (by decide +kernel)) (by decide +kernel), _, _, rfl⟩
theorem lk_RL_39 : LKv RL 39 mX11_operate 1 9 := ⟨mk_X11_operate, ws_of (List.mem_of_getElem? (i := 1349) (by decide +kernel)) (by decide +kernel), ws_of (List.mem_of_getElem? (i := 1350) (by decide +kernel)) (by decide +kernel), ws_of (List.mem_of_getElem? (i := 1351) (by decide +kernel)) (by decide +kernel), _, _, rfl⟩
theorem lk_RL_40 : LKv RL 40 mX10_tidy 0 8 := ⟨mk_X10_tidy, ws_of (List.mem_of_getElem? (i := 508) (by decide +kernel)) (by decide +kernel), ws_of (List.mem_of_getElem? (i := 509) (by decide +kernel)) (by decide +kernel), ws_of (List.mem_of_getElem? (i := 510) (by decide +kernel)) (by decide +kernel), _, _, rfl⟩
theorem lk_RL_44 : LKv RL 44 mX11_tidy 0 9 := ⟨mk_X11_tidy, ws_of (List.mem_of_getElem? (i := 1357) (by decide +kernel)) (by decide +kernel), ws_of (List.mem_of_getElem? (i := 1358) (by decide +kernel)) (by decide +kernel), ws_of (List.mem_of_getElem? (i := 1359) (by decide +kernel)) (by decide +kernel), _, _, rfl⟩
theorem lk_RL_45 : LKv RL 45 mX10_code 1 8 := ⟨mk_X10_code, ws_of (List.mem_of_getElem? (i := 565) (by decide +kernel)) (by decide +kernel), ws_of (List.mem_of_getElem? (i := 566) (by decide +kernel)) (by decide +kernel), ws_of (List.mem_of_getElem? (i := 567) (by decide +kernel)) (by decide +kernel), _, _, rfl⟩
theorem lk_RL_48 : LKv RL 48 mX11_code 1 9 := ⟨mk_X11_code, ws_of (List.mem_of_getElem? (i := 1388) (by decide +kernel)) (by decide +kernel), ws_of (List.mem_of_getElem? (i := 1389) (by decide +kernel)) (by decide +kernel), ws_of (List.mem_of_getElem? (i := 1390) (by decide +kernel)) (by decide +kernel), _, _, rfl⟩
theorem lk_RL_49 : LKv RL 49 mX10_type 1 8 := ⟨mk_X10_type, ws_of (List.mem_of_getElem? (i := 569) (by decide +kernel)) (by decide +kernel), ws_of (List.mem_of_getElem? (i := 570) (by decide +kernel)) (by decide +kernel), ws_of (List.mem_of_getElem? (i := 571) (by decide +kernel)) (by decide +kernel), _, _, rfl⟩
theorem lk_RL_52 : LKv RL 52 mX11_type 1 9 := ⟨mk_X11_type, ws_of (List.mem_of_getElem? (i := 1392) (by decide +kernel)) (by decide +kernel), ws_of (List.mem_of_getElem? (i := 1393) (by decide +kernel)) (by decide +kernel), ws_of (List.mem_of_getElem? (i := 1394) (by decide +kernel)) (by decide +kernel), _, _, rfl⟩
theorem lk_RL_53 : LKv RL 53 mX10_cycles 2 8 := ⟨mk_X10_cycles, ws_of (List.mem_of_getElem? (i := 574) (by decide +kernel)) (by decide +kernel), ws_of (List.mem_of_getElem? (i := 575) (by decide +kernel)) (by decide +kernel), ws_of (List.mem_of_getElem? (i := 576) (by decide +kernel)) (by decide +kernel), _, _, rfl⟩
theorem lk_RL_56 : LKv RL 56 mX11_cycles 2 9 := ⟨mk_X11_cycles, ws_of (List.mem_of_getElem? (i := 1396) (by decide +kernel)) (by decide +kernel), ws_of (List.mem_of_getElem? (i := 1397) (by decide +kernel)) (by decide +kernel), ws_of (List.mem_of_getElem? (i := 1398) (by decide +kernel)) (by decide +kernel), _, _, rfl⟩
theorem lk_RL_57 : LKv RL 57 mX10_along 3 8 := ⟨mk_X10_along, ws_of (List.mem_of_getElem? (i := 591) (by decide +kernel)) (by decide +kernel), ws_of (List.mem_of_getElem? (i := 592) (by decide +kernel)) (by decide +kernel), ws_of (List.mem_of_getElem? (i := 593) (by decide +kernel)) (by decide +kernel), _, _, rfl⟩
theorem lk_RL_61 : LKv RL 61 mX11_along 3 9 := ⟨mk_X11_along, ws_of (List.mem_of_getElem? (i := 1412) (by decide +kernel)) (by decide +kernel), ws_of (List.mem_of_getElem? (i := 1413) (by decide +kernel)) (by decide +kernel), ws_of (List.mem_of_getElem? (i := 1414) (by decide +kernel)) (by decide +kernel), _, _, rfl⟩
theorem lk_RL_62 : LKv RL 62 mX10_count 1 8 := ⟨mk_X10_count, ws_of (List.mem_of_getElem? (i := 608) (by decide +kernel)) (by decide +kernel), ws_of (List.mem_of_getElem? (i := 609) (by decide +kernel)) (by decide +kernel), ws_of (List.mem_of_getElem? (i := 610) (by decide +kernel)) (by decide +kernel), _, _, rfl⟩
theorem lk_RL_65 : LKv RL 65 mX11_count 1 9 := ⟨mk_X11_count, ws_of (List.mem_of_getElem? (i := 1588) (by decide +kernel)) (by decide +kernel), ws_of (List.mem_of_getElem? (i := 1589) (by decide +kernel)) (by decide +kernel), ws_of (List.mem_of_getElem? (i := 1590) (by decide +kernel)) (by decide +kernel), _, _, rfl⟩
theorem lk_RL_66 : LKv RL 66 mX10_part 2 8 := ⟨mk_X10_part, ws_of (List.mem_of_getElem? (i := 734) (by decide +kernel)) (by decide +kernel), ws_of (List.mem_of_getElem? (i := 735) (by decide +kernel)) (by decide +kernel), ws_of (List.mem_of_getElem? (i := 736) (by decide +kernel)) (by decide +kernel), _, _, rfl⟩
theorem lk_RL_69 : LKv RL 69 mX11_part 2 9 := ⟨mk_X11_part, ws_of (List.mem_of_getElem? (i := 1420) (by decide +kernel)) (by decide +kernel), ws_of (List.mem_of_getElem? (i := 1421) (by decide +kernel)) (by decide +kernel), ws_of (List.mem_of_getElem? (i := 1422) (by decide +kernel)) (by decide +kernel), _, _, rfl⟩
theorem lk_RL_70 : LKv RL 70 mX10_canon 1 8 := ⟨mk_X10_canon, ws_of (List.mem_of_getElem? (i := 740) (by decide +kernel)) (by decide +kernel), ws_of (List.mem_of_getElem? (i := 741) (by decide +kernel)) (by decide +kernel), ws_of (List.mem_of_getElem? (i := 742) (by decide +kernel)) (by decide +kernel), _, _, rfl⟩
theorem lk_RL_73 : LKv RL 73 mX11_canon 1 9 := ⟨mk_X11_canon, ws_of (List.mem_of_getElem? (i := 1369) (by decide +kernel)) (by decide +kernel), ws_of (List.mem_of_getElem? (i := 1370) (by decide +kernel)) (by decide +kernel), ws_of (List.mem_of_getElem? (i := 1371) (by decide +kernel)) (by decide +kernel), _, _, rfl⟩
theorem lk_RL_74 : LKv RL 74 mX10_point 3 8 := ⟨mk_X10_point, ws_of (List.mem_of_getElem? (i := 744) (by decide +kernel)) (by decide +kernel), ws_of (List.mem_of_getElem? (i := 745) (by decide +kernel)) (by decide +kernel), ws_of (List.mem_of_getElem? (i := 746) (by decide +kernel)) (by decide +kernel), _, _, rfl⟩
theorem lk_RL_77 : LKv RL 77 mX11_point 3 9 := ⟨mk_X11_point, ws_of (List.mem_of_getElem? (i := 1416) (by decide +kernel)) (by decide +kernel), ws_of (List.mem_of_getElem? (i := 1417) (by decide +kernel)) (by decide +kernel), ws_of (List.mem_of_getElem? (i := 1418) (by decide +kernel)) (by decide +kernel), _, _, rfl⟩
theorem lk_RL_78 : LKv RL 78 mX10_same 2 8 := ⟨mk_X10_same, ws_of (List.mem_of_getElem? (i := 754) (by decide +kernel)) (by decide +kernel), ws_of (List.mem_of_getElem? (i := 755) (by decide +kernel)) (by decide +kernel), ws_of (List.mem_of_getElem? (i := 756) (by decide +kernel)) (by decide +kernel), _, _, rfl⟩
theorem lk_RL_81 : LKv RL 81 mX11_same 2 9 := ⟨mk_X11_same, ws_of (List.mem_of_getElem? (i := 1376) (by decide +kernel)) (by decide +kernel), ws_of (List.mem_of_getElem? (i := 1377) (by decide +kernel)) (by decide +kernel), ws_of (List.mem_of_getElem? (i := 1378) (by decide +kernel)) (by decide +kernel), _, _, rfl⟩
theorem lk_RL_82 : LKv RL 82 mX10_label 2 8 := ⟨mk_X10_label, ws_of (List.mem_of_getElem? (i := 759) (by decide +kernel)) (by decide +kernel), ws_of (List.mem_of_getElem? (i := 760) (by decide +kernel)) (by decide +kernel), ws_of (List.mem_of_getElem? (i := 761) (by decide +kernel)) (by decide +kernel), _, _, rfl⟩
theorem lk_RL_85 : LKv RL 85 mX11_label 2 9 := ⟨mk_X11_label, ws_of (List.mem_of_getElem? (i := 1384) (by decide +kernel)) (by decide +kernel), ws_of (List.mem_of_getElem? (i := 1385) (by decide +kernel)) (by decide +kernel), ws_of (List.mem_of_getElem? (i := 1386) (by decide +kernel)) (by decide +kernel), _, _, rfl⟩
theorem lk_RL_86 : LKv RL 86 mX10_ofType 1 8 := ⟨mk_X10_ofType, ws_of (List.mem_of_getElem? (i := 763) (by decide +kernel)) (by decide +kernel), ws_of (List.mem_of_getElem? (i := 764) (by decide +kernel)) (by decide +kernel), ws_of (List.mem_of_getElem? (i := 765) (by decide +kernel)) (by decide +kernel), _, _, rfl⟩
theorem lk_RL_89 : LKv RL 89 mX11_ofType 1 9 := ⟨mk_X11_ofType, ws_of (List.mem_of_getElem? (i := 1431) (by decide +kernel)) (by decide +kernel), ws_of (List.mem_of_getElem? (i := 1432) (by decide +kernel)) (by decide +kernel), ws_of (List.mem_of_getElem? (i := 1433) (by decide +kernel)) (by decide +kernel), _, _, rfl⟩
theorem lk_RL_90 : LKv RL 90 mX10_elements 1 8 := ⟨mk_X10_elements, ws_of (List.mem_of_getElem? (i := 805) (by decide +kernel)) (by decide +kernel), ws_of (List.mem_of_getElem? (i := 806) (by decide +kernel)) (by decide +kernel), ws_of (List.mem_of_getElem? (i := 807) (by decide +kernel)) (by decide +kernel), _, _, rfl⟩
theorem lk_RL_93 : LKv RL 93 mX11_elements 1 9 := ⟨mk_X11_elements, ws_of (List.mem_of_getElem? (i := 1447) (by decide +kernel)) (by decide +kernel), ws_of (List.mem_of_getElem? (i := 1448) (by decide +kernel)) (by decide +kernel), ws_of (List.mem_of_getElem? (i := 1449) (by decide +kernel)) (by decide +kernel), _, _, rfl⟩
theorem lk_RL_94 : LKv RL 94 mX10_length 1 8 := ⟨mk_X10_length, ws_of (List.mem_of_getElem? (i := 821) (by decide +kernel)) (by decide +kernel), ws_of (List.mem_of_getElem? (i := 822) (by decide +kernel)) (by decide +kernel), ws_of (List.mem_of_getElem? (i := 823) (by decide +kernel)) (by decide +kernel), _, _, rfl⟩
theorem lk_RL_97 : LKv RL 97 mX11_length 1 9 := ⟨mk_X11_length, ws_of (List.mem_of_getElem? (i := 1451) (by decide +kernel)) (by decide +kernel), ws_of (List.mem_of_getElem? (i := 1452) (by decide +kernel)) (by decide +kernel), ws_of (List.mem_of_getElem? (i := 1453) (by decide +kernel)) (by decide +kernel), _, _, rfl⟩
theorem lk_RL_98 : LKv RL 98 mX10_block 2 8 := ⟨mk_X10_block, ws_of (List.mem_of_getElem? (i := 826) (by decide +kernel)) (by decide +kernel), ws_of (List.mem_of_getElem? (i := 827) (by decide +kernel)) (by decide +kernel), ws_of (List.mem_of_getElem? (i := 828) (by decide +kernel)) (by decide +kernel), _, _, rfl⟩
theorem lk_RL_101 : LKv RL 101 mX11_block 2 9 := ⟨mk_X11_block, ws_of (List.mem_of_getElem? (i := 1459) (by decide +kernel)) (by decide +kernel), ws_of (List.mem_of_getElem? (i := 1460) (by decide +kernel)) (by decide +kernel), ws_of (List.mem_of_getElem? (i := 1461) (by decide +kernel)) (by decide +kernel), _, _, rfl⟩
theorem lk_RL_102 : LKv RL 102 mX10_kinds 1 8 := ⟨mk_X10_kinds, ws_of (List.mem_of_getElem? (i := 839) (by decide +kernel)) (by decide +kernel), ws_of (List.mem_of_getElem? (i := 840) (by decide +kernel)) (by decide +kernel), ws_of (List.mem_of_getElem? (i := 841) (by decide +kernel)) (by decide +kernel), _, _, rfl⟩
theorem lk_RL_105 : LKv RL 105 mX11_kinds 1 9 := ⟨mk_X11_kinds, ws_of (List.mem_of_getElem? (i := 1498) (by decide +kernel)) (by decide +kernel), ws_of (List.mem_of_getElem? (i := 1499) (by decide +kernel)) (by decide +kernel), ws_of (List.mem_of_getElem? (i := 1500) (by decide +kernel)) (by decide +kernel), _, _, rfl⟩
theorem lk_RL_106 : LKv RL 106 mX10_size 1 8 := ⟨mk_X10_size, ws_of (List.mem_of_getElem? (i := 845) (by decide +kernel)) (by decide +kernel), ws_of (List.mem_of_getElem? (i := 846) (by decide +kernel)) (by decide +kernel), ws_of (List.mem_of_getElem? (i := 847) (by decide +kernel)) (by decide +kernel), _, _, rfl⟩
theorem lk_RL_109 : LKv RL 109 mX11_size 1 9 := ⟨mk_X11_size, ws_of (List.mem_of_getElem? (i := 1502) (by decide +kernel)) (by decide +kernel), ws_of (List.mem_of_getElem? (i := 1503) (by decide +kernel)) (by decide +kernel), ws_of (List.mem_of_getElem? (i := 1504) (by decide +kernel)) (by decide +kernel), _, _, rfl⟩
theorem lk_RL_110 : LKv RL 110 mX10_character 2 8 := ⟨mk_X10_character, ws_of (List.mem_of_getElem? (i := 853) (by decide +kernel)) (by decide +kernel), ws_of (List.mem_of_getElem? (i := 854) (by decide +kernel)) (by decide +kernel), ws_of (List.mem_of_getElem? (i := 855) (by decide +kernel)) (by decide +kernel), _, _, rfl⟩
theorem lk_RL_113 : LKv RL 113 mX11_character 2 9 := ⟨mk_X11_character, ws_of (List.mem_of_getElem? (i := 1506) (by decide +kernel)) (by decide +kernel), ws_of (List.mem_of_getElem? (i := 1507) (by decide +kernel)) (by decide +kernel), ws_of (List.mem_of_getElem? (i := 1508) (by decide +kernel)) (by decide +kernel), _, _, rfl⟩
theorem lk_RL_114 : LKv RL 114 mX10_triples 4 8 := ⟨mk_X10_triples, ws_of (List.mem_of_getElem? (i := 865) (by decide +kernel)) (by decide +kernel), ws_of (List.mem_of_getElem? (i := 866) (by decide +kernel)) (by decide +kernel), ws_of (List.mem_of_getElem? (i := 867) (by decide +kernel)) (by decide +kernel), _, _, rfl⟩
theorem lk_RL_118 : LKv RL 118 mX11_triples 4 9 := ⟨mk_X11_triples, ws_of (List.mem_of_getElem? (i := 1527) (by decide +kernel)) (by decide +kernel), ws_of (List.mem_of_getElem? (i := 1528) (by decide +kernel)) (by decide +kernel), ws_of (List.mem_of_getElem? (i := 1529) (by decide +kernel)) (by decide +kernel), _, _, rfl⟩
theorem lk_RL_119 : LKv RL 119 mX10_classes 5 8 := ⟨mk_X10_classes, ws_of (List.mem_of_getElem? (i := 896) (by decide +kernel)) (by decide +kernel), ws_of (List.mem_of_getElem? (i := 897) (by decide +kernel)) (by decide +kernel), ws_of (List.mem_of_getElem? (i := 898) (by decide +kernel)) (by decide +kernel), _, _, rfl⟩
theorem lk_RL_122 : LKv RL 122 mX11_classes 5 9 := ⟨mk_X11_classes, ws_of (List.mem_of_getElem? (i := 1548) (by decide +kernel)) (by decide +kernel), ws_of (List.mem_of_getElem? (i := 1549) (by decide +kernel)) (by decide +kernel), ws_of (List.mem_of_getElem? (i := 1550) (by decide +kernel)) (by decide +kernel), _, _, rfl⟩
theorem lk_RL_123 : LKv RL 123 mX10_mass 4 8 := ⟨mk_X10_mass, ws_of (List.mem_of_getElem? (i := 904) (by decide +kernel)) (by decide +kernel), ws_of (List.mem_of_getElem? (i := 905) (by decide +kernel)) (by decide +kernel), ws_of (List.mem_of_getElem? (i := 906) (by decide +kernel)) (by decide +kernel), _, _, rfl⟩
theorem lk_RL_126 : LKv RL 126 mX11_mass 4 9 := ⟨mk_X11_mass, ws_of (List.mem_of_getElem? (i := 1560) (by decide +kernel)) (by decide +kernel), ws_of (List.mem_of_getElem? (i := 1561) (by decide +kernel)) (by decide +kernel), ws_of (List.mem_of_getElem? (i := 1562) (by decide +kernel)) (by decide +kernel), _, _, rfl⟩
theorem lk_RL_127 : LKv RL 127 mX10_genera 3 8 := ⟨mk_X10_genera, ws_of (List.mem_of_getElem? (i := 912) (by decide +kernel)) (by decide +kernel), ws_of (List.mem_of_getElem? (i := 913) (by decide +kernel)) (by decide +kernel), ws_of (List.mem_of_getElem? (i := 914) (by decide +kernel)) (by decide +kernel), _, _, rfl⟩
theorem lk_RL_131 : LKv RL 131 mX11_genera 3 9 := ⟨mk_X11_genera, ws_of (List.mem_of_getElem? (i := 1568) (by decide +kernel)) (by decide +kernel), ws_of (List.mem_of_getElem? (i := 1569) (by decide +kernel)) (by decide +kernel), ws_of (List.mem_of_getElem? (i := 1570) (by decide +kernel)) (by decide +kernel), _, _, rfl⟩
theorem lk_RL_132 : LKv RL 132 mX10_thirds 3 8 := ⟨mk_X10_thirds, ws_of (List.mem_of_getElem? (i := 919) (by decide +kernel)) (by decide +kernel), ws_of (List.mem_of_getElem? (i := 920) (by decide +kernel)) (by decide +kernel), ws_of (List.mem_of_getElem? (i := 921) (by decide +kernel)) (by decide +kernel), _, _, rfl⟩
theorem lk_RL_135 : LKv RL 135 mX11_thirds 3 9 := ⟨mk_X11_thirds, ws_of (List.mem_of_getElem? (i := 1576) (by decide +kernel)) (by decide +kernel), ws_of (List.mem_of_getElem? (i := 1577) (by decide +kernel)) (by decide +kernel), ws_of (List.mem_of_getElem? (i := 1578) (by decide +kernel)) (by decide +kernel), _, _, rfl⟩
theorem lk_RL_136 : LKv RL 136 mX10_family 2 8 := ⟨mk_X10_family, ws_of (List.mem_of_getElem? (i := 923) (by decide +kernel)) (by decide +kernel), ws_of (List.mem_of_getElem? (i := 924) (by decide +kernel)) (by decide +kernel), ws_of (List.mem_of_getElem? (i := 925) (by decide +kernel)) (by decide +kernel), _, _, rfl⟩
theorem lk_RL_139 : LKv RL 139 mX11_family 2 9 := ⟨mk_X11_family, ws_of (List.mem_of_getElem? (i := 1580) (by decide +kernel)) (by decide +kernel), ws_of (List.mem_of_getElem? (i := 1581) (by decide +kernel)) (by decide +kernel), ws_of (List.mem_of_getElem? (i := 1582) (by decide +kernel)) (by decide +kernel), _, _, rfl⟩
theorem lk_RL_140 : LKv RL 140 mX10_walk 2 8 := ⟨mk_X10_walk, ws_of (List.mem_of_getElem? (i := 955) (by decide +kernel)) (by decide +kernel), ws_of (List.mem_of_getElem? (i := 956) (by decide +kernel)) (by decide +kernel), ws_of (List.mem_of_getElem? (i := 957) (by decide +kernel)) (by decide +kernel), _, _, rfl⟩
theorem lk_RL_143 : LKv RL 143 mX11_walk 2 9 := ⟨mk_X11_walk, ws_of (List.mem_of_getElem? (i := 1604) (by decide +kernel)) (by decide +kernel), ws_of (List.mem_of_getElem? (i := 1605) (by decide +kernel)) (by decide +kernel), ws_of (List.mem_of_getElem? (i := 1606) (by decide +kernel)) (by decide +kernel), _, _, rfl⟩
theorem lk_RL_144 : LKv RL 144 mX10_made 2 8 := ⟨mk_X10_made, ws_of (List.mem_of_getElem? (i := 969) (by decide +kernel)) (by decide +kernel), ws_of (List.mem_of_getElem? (i := 970) (by decide +kernel)) (by decide +kernel), ws_of (List.mem_of_getElem? (i := 971) (by decide +kernel)) (by decide +kernel), _, _, rfl⟩
theorem lk_RL_147 : LKv RL 147 mX11_made 2 9 := ⟨mk_X11_made, ws_of (List.mem_of_getElem? (i := 1616) (by decide +kernel)) (by decide +kernel), ws_of (List.mem_of_getElem? (i := 1617) (by decide +kernel)) (by decide +kernel), ws_of (List.mem_of_getElem? (i := 1618) (by decide +kernel)) (by decide +kernel), _, _, rfl⟩
theorem lk_RL_148 : LKv RL 148 mX10_power 2 8 := ⟨mk_X10_power, ws_of (List.mem_of_getElem? (i := 973) (by decide +kernel)) (by decide +kernel), ws_of (List.mem_of_getElem? (i := 974) (by decide +kernel)) (by decide +kernel), ws_of (List.mem_of_getElem? (i := 975) (by decide +kernel)) (by decide +kernel), _, _, rfl⟩
theorem lk_RL_151 : LKv RL 151 mX11_power 2 9 := ⟨mk_X11_power, ws_of (List.mem_of_getElem? (i := 1620) (by decide +kernel)) (by decide +kernel), ws_of (List.mem_of_getElem? (i := 1621) (by decide +kernel)) (by decide +kernel), ws_of (List.mem_of_getElem? (i := 1622) (by decide +kernel)) (by decide +kernel), _, _, rfl⟩
theorem lk_RL_152 : LKv RL 152 mX10_roots 3 8 := ⟨mk_X10_roots, ws_of (List.mem_of_getElem? (i := 977) (by decide +kernel)) (by decide +kernel), ws_of (List.mem_of_getElem? (i := 978) (by decide +kernel)) (by decide +kernel), ws_of (List.mem_of_getElem? (i := 979) (by decide +kernel)) (by decide +kernel), _, _, rfl⟩
theorem lk_RL_155 : LKv RL 155 mX11_roots 3 9 := ⟨mk_X11_roots, ws_of (List.mem_of_getElem? (i := 1628) (by decide +kernel)) (by decide +kernel), ws_of (List.mem_of_getElem? (i := 1629) (by decide +kernel)) (by decide +kernel), ws_of (List.mem_of_getElem? (i := 1630) (by decide +kernel)) (by decide +kernel), _, _, rfl⟩
theorem lk_RL_156 : LKv RL 156 mX10_reckon 3 8 := ⟨mk_X10_reckon, ws_of (List.mem_of_getElem? (i := 989) (by decide +kernel)) (by decide +kernel), ws_of (List.mem_of_getElem? (i := 990) (by decide +kernel)) (by decide +kernel), ws_of (List.mem_of_getElem? (i := 991) (by decide +kernel)) (by decide +kernel), _, _, rfl⟩
theorem lk_RL_159 : LKv RL 159 mX11_reckon 3 9 := ⟨mk_X11_reckon, ws_of (List.mem_of_getElem? (i := 1632) (by decide +kernel)) (by decide +kernel), ws_of (List.mem_of_getElem? (i := 1633) (by decide +kernel)) (by decide +kernel), ws_of (List.mem_of_getElem? (i := 1634) (by decide +kernel)) (by decide +kernel), _, _, rfl⟩
theorem lk_RL_160 : LKv RL 160 mX10_way 2 8 := ⟨mk_X10_way, ws_of (List.mem_of_getElem? (i := 995) (by decide +kernel)) (by decide +kernel), ws_of (List.mem_of_getElem? (i := 996) (by decide +kernel)) (by decide +kernel), ws_of (List.mem_of_getElem? (i := 997) (by decide +kernel)) (by decide +kernel), _, _, rfl⟩
theorem lk_RL_163 : LKv RL 163 mX11_way 2 9 := ⟨mk_X11_way, ws_of (List.mem_of_getElem? (i := 1636) (by decide +kernel)) (by decide +kernel), ws_of (List.mem_of_getElem? (i := 1637) (by decide +kernel)) (by decide +kernel), ws_of (List.mem_of_getElem? (i := 1638) (by decide +kernel)) (by decide +kernel), _, _, rfl⟩
theorem lk_RL_164 : LKv RL 164 mX10_meet 4 8 := ⟨mk_X10_meet, ws_of (List.mem_of_getElem? (i := 1003) (by decide +kernel)) (by decide +kernel), ws_of (List.mem_of_getElem? (i := 1004) (by decide +kernel)) (by decide +kernel), ws_of (List.mem_of_getElem? (i := 1005) (by decide +kernel)) (by decide +kernel), _, _, rfl⟩
theorem lk_RL_168 : LKv RL 168 mX11_meet 4 9 := ⟨mk_X11_meet, ws_of (List.mem_of_getElem? (i := 1644) (by decide +kernel)) (by decide +kernel), ws_of (List.mem_of_getElem? (i := 1645) (by decide +kernel)) (by decide +kernel), ws_of (List.mem_of_getElem? (i := 1646) (by decide +kernel)) (by decide +kernel), _, _, rfl⟩
theorem lk_RL_169 : LKv RL 169 mX10_paste 0 8 := ⟨mk_X10_paste, ws_of (List.mem_of_getElem? (i := 1007) (by decide +kernel)) (by decide +kernel), ws_of (List.mem_of_getElem? (i := 1008) (by decide +kernel)) (by decide +kernel), ws_of (List.mem_of_getElem? (i := 1009) (by decide +kernel)) (by decide +kernel), _, _, rfl⟩
theorem lk_RL_172 : LKv RL 172 mX11_paste 0 9 := ⟨mk_X11_paste, ws_of (List.mem_of_getElem? (i := 1652) (by decide +kernel)) (by decide +kernel), ws_of (List.mem_of_getElem? (i := 1653) (by decide +kernel)) (by decide +kernel), ws_of (List.mem_of_getElem? (i := 1654) (by decide +kernel)) (by decide +kernel), _, _, rfl⟩
theorem lk_RL_173 : LKv RL 173 mX10_piece 2 8 := ⟨mk_X10_piece, ws_of (List.mem_of_getElem? (i := 1019) (by decide +kernel)) (by decide +kernel), ws_of (List.mem_of_getElem? (i := 1020) (by decide +kernel)) (by decide +kernel), ws_of (List.mem_of_getElem? (i := 1021) (by decide +kernel)) (by decide +kernel), _, _, rfl⟩
theorem lk_RL_176 : LKv RL 176 mX11_piece 2 9 := ⟨mk_X11_piece, ws_of (List.mem_of_getElem? (i := 1656) (by decide +kernel)) (by decide +kernel), ws_of (List.mem_of_getElem? (i := 1657) (by decide +kernel)) (by decide +kernel), ws_of (List.mem_of_getElem? (i := 1658) (by decide +kernel)) (by decide +kernel), _, _, rfl⟩
theorem lk_RL_177 : LKv RL 177 mX10_take 1 8 := ⟨mk_X10_take, ws_of (List.mem_of_getElem? (i := 1023) (by decide +kernel)) (by decide +kernel), ws_of (List.mem_of_getElem? (i := 1024) (by decide +kernel)) (by decide +kernel), ws_of (List.mem_of_getElem? (i := 1025) (by decide +kernel)) (by decide +kernel), _, _, rfl⟩
theorem lk_RL_180 : LKv RL 180 mX11_take 1 9 := ⟨mk_X11_take, ws_of (List.mem_of_getElem? (i := 1660) (by decide +kernel)) (by decide +kernel), ws_of (List.mem_of_getElem? (i := 1661) (by decide +kernel)) (by decide +kernel), ws_of (List.mem_of_getElem? (i := 1662) (by decide +kernel)) (by decide +kernel), _, _, rfl⟩
theorem lk_RL_181 : LKv RL 181 mX10_keep 0 8 := ⟨mk_X10_keep, ws_of (List.mem_of_getElem? (i := 1027) (by decide +kernel)) (by decide +kernel), ws_of (List.mem_of_getElem? (i := 1028) (by decide +kernel)) (by decide +kernel), ws_of (List.mem_of_getElem? (i := 1029) (by decide +kernel)) (by decide +kernel), _, _, rfl⟩
theorem lk_RL_184 : LKv RL 184 mX11_keep 0 9 := ⟨mk_X11_keep, ws_of (List.mem_of_getElem? (i := 1664) (by decide +kernel)) (by decide +kernel), ws_of (List.mem_of_getElem? (i := 1665) (by decide +kernel)) (by decide +kernel), ws_of (List.mem_of_getElem? (i := 1666) (by decide +kernel)) (by decide +kernel), _, _, rfl⟩
theorem lk_RL_185 : LKv RL 185 mX10_undo 0 8 := ⟨mk_X10_undo, ws_of (List.mem_of_getElem? (i := 1035) (by decide +kernel)) (by decide +kernel), ws_of (List.mem_of_getElem? (i := 1036) (by decide +kernel)) (by decide +kernel), ws_of (List.mem_of_getElem? (i := 1037) (by decide +kernel)) (by decide +kernel), _, _, rfl⟩
theorem lk_RL_188 : LKv RL 188 mX11_undo 0 9 := ⟨mk_X11_undo, ws_of (List.mem_of_getElem? (i := 1668) (by decide +kernel)) (by decide +kernel), ws_of (List.mem_of_getElem? (i := 1669) (by decide +kernel)) (by decide +kernel), ws_of (List.mem_of_getElem? (i := 1670) (by decide +kernel)) (by decide +kernel), _, _, rfl⟩
theorem lk_RX0_15 : LKv RX0 15 mX0_find 4 0 := ⟨mk_X0_find, ws_of (List.mem_of_getElem? (i := 653) (by decide +kernel)) (by decide +kernel), ws_of (List.mem_of_getElem? (i := 654) (by decide +kernel)) (by decide +kernel), ws_of (List.mem_of_getElem? (i := 655) (by decide +kernel)) (by decide +kernel), _, _, rfl⟩
theorem lk_RX0_19 : LKs RX0 19 mJ6_bitCount_0f7a4 1 := ⟨mk_J6_bitCount_0f7a4, ws_of (List.mem_of_getElem? (i := 657) (by decide +kernel)) (by decide +kernel), ws_of (List.mem_of_getElem? (i := 526) (by decide +kernel)) (by decide +kernel)⟩
theorem lk_RX0_25 : LKv RX0 25 mX0_lay 3 0 := ⟨mk_X0_lay, ws_of (List.mem_of_getElem? (i := 658) (by decide +kernel)) (by decide +kernel), ws_of (List.mem_of_getElem? (i := 660) (by decide +kernel)) (by decide +kernel), ws_of (List.mem_of_getElem? (i := 13) (by decide +kernel)) (by decide +kernel), _, _, rfl⟩
theorem lk_RX0_29 : LKv RX0 29 mX0_sort 0 0 := ⟨mk_X0_sort, ws_of (List.mem_of_getElem? (i := 671) (by decide +kernel)) (by decide +kernel), ws_of (List.mem_of_getElem? (i := 673) (by decide +kernel)) (by decide +kernel), ws_of (List.mem_of_getElem? (i := 15) (by decide +kernel)) (by decide +kernel), _, _, rfl⟩
theorem lk_RX0_36 : LKv RX0 36 mX0_admit 1 0 := ⟨mk_X0_admit, ws_of (List.mem_of_getElem? (i := 662) (by decide +kernel)) (by decide +kernel), ws_of (List.mem_of_getElem? (i := 664) (by decide +kernel)) (by decide +kernel), ws_of (List.mem_of_getElem? (i := 14) (by decide +kernel)) (by decide +kernel), _, _, rfl⟩
theorem lk_RX0_40 : LKs RX0 40 mX0_moved 2 := ⟨mk_X0_moved, ws_of (List.mem_of_getElem? (i := 666) (by decide +kernel)) (by decide +kernel), ws_of (List.mem_of_getElem? (i := 667) (by decide +kernel)) (by decide +kernel)⟩
theorem lk_RX0_44 : LKs RX0 44 mX6_bit 1 := ⟨mk_X6_bit, ws_of (List.mem_of_getElem? (i := 669) (by decide +kernel)) (by decide +kernel), ws_of (List.mem_of_getElem? (i := 419) (by decide +kernel)) (by decide +kernel)⟩
theorem lk_RX0_49 : LKs RX0 49 mX6_at 2 := ⟨mk_X6_at, ws_of (List.mem_of_getElem? (i := 670) (by decide +kernel)) (by decide +kernel), ws_of (List.mem_of_getElem? (i := 435) (by decide +kernel)) (by decide +kernel)⟩
theorem lk_RX0_52 : LKs RX0 52 mX6_lowest 1 := ⟨mk_X6_lowest, ws_of (List.mem_of_getElem? (i := 675) (by decide +kernel)) (by decide +kernel), ws_of (List.mem_of_getElem? (i := 523) (by decide +kernel)) (by decide +kernel)⟩
theorem lk_RX1_40 : LKs RX1 40 mX5_factorial 1 := ⟨mk_X5_factorial, ws_of (List.mem_of_getElem? (i := 698) (by decide +kernel)) (by decide +kernel), ws_of (List.mem_of_getElem? (i := 699) (by decide +kernel)) (by decide +kernel)⟩
theorem lk_RX1_56 : LKs RX1 56 mX6_kind 2 := ⟨mk_X6_kind, ws_of (List.mem_of_getElem? (i := 704) (by decide +kernel)) (by decide +kernel), ws_of (List.mem_of_getElem? (i := 517) (by decide +kernel)) (by decide +kernel)⟩
theorem lk_RX1_60 : LKs RX1 60 mX6_next 2 := ⟨mk_X6_next, ws_of (List.mem_of_getElem? (i := 705) (by decide +kernel)) (by decide +kernel), ws_of (List.mem_of_getElem? (i := 706) (by decide +kernel)) (by decide +kernel)⟩
theorem lk_RX1_63 : LKv RX1 63 mX1_prepare 1 1 := ⟨mk_X1_prepare, ws_of (List.mem_of_getElem? (i := 694) (by decide +kernel)) (by decide +kernel), ws_of (List.mem_of_getElem? (i := 695) (by decide +kernel)) (by decide +kernel), ws_of (List.mem_of_getElem? (i := 696) (by decide +kernel)) (by decide +kernel), _, _, rfl⟩
theorem lk_RX1_70 : LKs RX1 70 mX6_least 2 := ⟨mk_X6_least, ws_of (List.mem_of_getElem? (i := 709) (by decide +kernel)) (by decide +kernel), ws_of (List.mem_of_getElem? (i := 535) (by decide +kernel)) (by decide +kernel)⟩
theorem lk_RX1_73 : LKv RX1 73 mX1_tell 2 1 := ⟨mk_X1_tell, ws_of (List.mem_of_getElem? (i := 874) (by decide +kernel)) (by decide +kernel), ws_of (List.mem_of_getElem? (i := 876) (by decide +kernel)) (by decide +kernel), ws_of (List.mem_of_getElem? (i := 21) (by decide +kernel)) (by decide +kernel), _, _, rfl⟩
theorem lk_RX1_77 : LKs RX1 77 mX6_then 2 := ⟨mk_X6_then, ws_of (List.mem_of_getElem? (i := 716) (by decide +kernel)) (by decide +kernel), ws_of (List.mem_of_getElem? (i := 432) (by decide +kernel)) (by decide +kernel)⟩
theorem lk_RX1_80 : LKs RX1 80 mX5_index 2 := ⟨mk_X5_index, ws_of (List.mem_of_getElem? (i := 878) (by decide +kernel)) (by decide +kernel), ws_of (List.mem_of_getElem? (i := 772) (by decide +kernel)) (by decide +kernel)⟩
theorem lk_RX1_83 : LKs RX1 83 mX6_joined 3 := ⟨mk_X6_joined, ws_of (List.mem_of_getElem? (i := 715) (by decide +kernel)) (by decide +kernel), ws_of (List.mem_of_getElem? (i := 623) (by decide +kernel)) (by decide +kernel)⟩
theorem lk_RX1_99 : LKv RX1 99 mX8_gather 3 6 := ⟨mk_X8_gather, ws_of (List.mem_of_getElem? (i := 710) (by decide +kernel)) (by decide +kernel), ws_of (List.mem_of_getElem? (i := 538) (by decide +kernel)) (by decide +kernel), ws_of (List.mem_of_getElem? (i := 539) (by decide +kernel)) (by decide +kernel), _, _, rfl⟩
theorem lk_RX1_105 : LKv RX1 105 mX1_belongs 2 1 := ⟨mk_X1_belongs, ws_of (List.mem_of_getElem? (i := 711) (by decide +kernel)) (by decide +kernel), ws_of (List.mem_of_getElem? (i := 713) (by decide +kernel)) (by decide +kernel), ws_of (List.mem_of_getElem? (i := 17) (by decide +kernel)) (by decide +kernel), _, _, rfl⟩
theorem lk_RX1_109 : LKv RX1 109 mX1_open 2 1 := ⟨mk_X1_open, ws_of (List.mem_of_getElem? (i := 717) (by decide +kernel)) (by decide +kernel), ws_of (List.mem_of_getElem? (i := 719) (by decide +kernel)) (by decide +kernel), ws_of (List.mem_of_getElem? (i := 18) (by decide +kernel)) (by decide +kernel), _, _, rfl⟩
theorem lk_RX1_116 : LKv RX1 116 mX8_nth 1 6 := ⟨mk_X8_nth, ws_of (List.mem_of_getElem? (i := 721) (by decide +kernel)) (by decide +kernel), ws_of (List.mem_of_getElem? (i := 558) (by decide +kernel)) (by decide +kernel), ws_of (List.mem_of_getElem? (i := 559) (by decide +kernel)) (by decide +kernel), _, _, rfl⟩
theorem lk_RX1_119 : LKs RX1 119 mX6_relabelled 2 := ⟨mk_X6_relabelled, ws_of (List.mem_of_getElem? (i := 722) (by decide +kernel)) (by decide +kernel), ws_of (List.mem_of_getElem? (i := 563) (by decide +kernel)) (by decide +kernel)⟩
theorem lk_RX1_122 : LKs RX1 122 mX6_rank 2 := ⟨mk_X6_rank, ws_of (List.mem_of_getElem? (i := 723) (by decide +kernel)) (by decide +kernel), ws_of (List.mem_of_getElem? (i := 724) (by decide +kernel)) (by decide +kernel)⟩
theorem lk_RX10_77 : LKv RX10 77 mX10_append 1 8 := ⟨mk_X10_append, ws_of (List.mem_of_getElem? (i := 395) (by decide +kernel)) (by decide +kernel), ws_of (List.mem_of_getElem? (i := 397) (by decide +kernel)) (by decide +kernel), ws_of (List.mem_of_getElem? (i := 0) (by decide +kernel)) (by decide +kernel), _, _, rfl⟩
theorem lk_RX10_93 : LKs RX10 93 mX6_read 2 := ⟨mk_X6_read, ws_of (List.mem_of_getElem? (i := 408) (by decide +kernel)) (by decide +kernel), ws_of (List.mem_of_getElem? (i := 409) (by decide +kernel)) (by decide +kernel)⟩
theorem lk_RX10_97 : LKs RX10 97 mX10_colour 1 := ⟨mk_X10_colour, ws_of (List.mem_of_getElem? (i := 421) (by decide +kernel)) (by decide +kernel), ws_of (List.mem_of_getElem? (i := 422) (by decide +kernel)) (by decide +kernel)⟩
theorem lk_RX10_101 : LKv RX10 101 mX10_turn 1 8 := ⟨mk_X10_turn, ws_of (List.mem_of_getElem? (i := 424) (by decide +kernel)) (by decide +kernel), ws_of (List.mem_of_getElem? (i := 426) (by decide +kernel)) (by decide +kernel), ws_of (List.mem_of_getElem? (i := 1) (by decide +kernel)) (by decide +kernel), _, _, rfl⟩
theorem lk_RX10_105 : LKs RX10 105 mX6_digits 2 := ⟨mk_X6_digits, ws_of (List.mem_of_getElem? (i := 440) (by decide +kernel)) (by decide +kernel), ws_of (List.mem_of_getElem? (i := 441) (by decide +kernel)) (by decide +kernel)⟩
theorem lk_RX10_108 : LKv RX10 108 mX10_put 2 8 := ⟨mk_X10_put, ws_of (List.mem_of_getElem? (i := 443) (by decide +kernel)) (by decide +kernel), ws_of (List.mem_of_getElem? (i := 445) (by decide +kernel)) (by decide +kernel), ws_of (List.mem_of_getElem? (i := 2) (by decide +kernel)) (by decide +kernel), _, _, rfl⟩
theorem lk_RX10_112 : LKv RX10 112 mX10_readable 1 8 := ⟨mk_X10_readable, ws_of (List.mem_of_getElem? (i := 451) (by decide +kernel)) (by decide +kernel), ws_of (List.mem_of_getElem? (i := 453) (by decide +kernel)) (by decide +kernel), ws_of (List.mem_of_getElem? (i := 3) (by decide +kernel)) (by decide +kernel), _, _, rfl⟩
theorem lk_RX10_115 : LKv RX10 115 mX7_begin 1 5 := ⟨mk_X7_begin, ws_of (List.mem_of_getElem? (i := 455) (by decide +kernel)) (by decide +kernel), ws_of (List.mem_of_getElem? (i := 456) (by decide +kernel)) (by decide +kernel), ws_of (List.mem_of_getElem? (i := 457) (by decide +kernel)) (by decide +kernel), _, _, rfl⟩
theorem lk_RX10_118 : LKv RX10 118 mX7_fault 1 5 := ⟨mk_X7_fault, ws_of (List.mem_of_getElem? (i := 459) (by decide +kernel)) (by decide +kernel), ws_of (List.mem_of_getElem? (i := 460) (by decide +kernel)) (by decide +kernel), ws_of (List.mem_of_getElem? (i := 461) (by decide +kernel)) (by decide +kernel), _, _, rfl⟩
theorem lk_RX10_121 : LKv RX10 121 mX7_complete 0 5 := ⟨mk_X7_complete, ws_of (List.mem_of_getElem? (i := 477) (by decide +kernel)) (by decide +kernel), ws_of (List.mem_of_getElem? (i := 478) (by decide +kernel)) (by decide +kernel), ws_of (List.mem_of_getElem? (i := 479) (by decide +kernel)) (by decide +kernel), _, _, rfl⟩
theorem lk_RX10_125 : LKv RX10 125 mX7_permutation 0 5 := ⟨mk_X7_permutation, ws_of (List.mem_of_getElem? (i := 481) (by decide +kernel)) (by decide +kernel), ws_of (List.mem_of_getElem? (i := 482) (by decide +kernel)) (by decide +kernel), ws_of (List.mem_of_getElem? (i := 483) (by decide +kernel)) (by decide +kernel), _, _, rfl⟩
theorem lk_RX10_133 : LKv RX10 133 mX10_shuffled 1 8 := ⟨mk_X10_shuffled, ws_of (List.mem_of_getElem? (i := 490) (by decide +kernel)) (by decide +kernel), ws_of (List.mem_of_getElem? (i := 492) (by decide +kernel)) (by decide +kernel), ws_of (List.mem_of_getElem? (i := 7) (by decide +kernel)) (by decide +kernel), _, _, rfl⟩
theorem lk_RX10_136 : LKs RX10 136 mX6_swapped 3 := ⟨mk_X6_swapped, ws_of (List.mem_of_getElem? (i := 494) (by decide +kernel)) (by decide +kernel), ws_of (List.mem_of_getElem? (i := 495) (by decide +kernel)) (by decide +kernel)⟩
theorem lk_RX10_140 : LKs RX10 140 mX6_black 3 := ⟨mk_X6_black, ws_of (List.mem_of_getElem? (i := 501) (by decide +kernel)) (by decide +kernel), ws_of (List.mem_of_getElem? (i := 502) (by decide +kernel)) (by decide +kernel)⟩
theorem lk_RX10_143 : LKs RX10 143 mX6_white 3 := ⟨mk_X6_white, ws_of (List.mem_of_getElem? (i := 505) (by decide +kernel)) (by decide +kernel), ws_of (List.mem_of_getElem? (i := 506) (by decide +kernel)) (by decide +kernel)⟩
theorem lk_RX10_146 : LKv RX10 146 mX8_settle 3 6 := ⟨mk_X8_settle, ws_of (List.mem_of_getElem? (i := 512) (by decide +kernel)) (by decide +kernel), ws_of (List.mem_of_getElem? (i := 513) (by decide +kernel)) (by decide +kernel), ws_of (List.mem_of_getElem? (i := 514) (by decide +kernel)) (by decide +kernel), _, _, rfl⟩
theorem lk_RX10_156 : LKs RX10 156 mX6_faces 2 := ⟨mk_X6_faces, ws_of (List.mem_of_getElem? (i := 428) (by decide +kernel)) (by decide +kernel), ws_of (List.mem_of_getElem? (i := 429) (by decide +kernel)) (by decide +kernel)⟩
theorem lk_RX10_159 : LKs RX10 159 mX6_kind 2 := ⟨mk_X6_kind, ws_of (List.mem_of_getElem? (i := 573) (by decide +kernel)) (by decide +kernel), ws_of (List.mem_of_getElem? (i := 517) (by decide +kernel)) (by decide +kernel)⟩
theorem lk_RX10_162 : LKs RX10 162 mX6_darts 1 := ⟨mk_X6_darts, ws_of (List.mem_of_getElem? (i := 578) (by decide +kernel)) (by decide +kernel), ws_of (List.mem_of_getElem? (i := 520) (by decide +kernel)) (by decide +kernel)⟩
theorem lk_RX10_165 : LKs RX10 165 mX6_rings 2 := ⟨mk_X6_rings, ws_of (List.mem_of_getElem? (i := 579) (by decide +kernel)) (by decide +kernel), ws_of (List.mem_of_getElem? (i := 580) (by decide +kernel)) (by decide +kernel)⟩
theorem lk_RX10_168 : LKs RX10 168 mX6_resting 2 := ⟨mk_X6_resting, ws_of (List.mem_of_getElem? (i := 582) (by decide +kernel)) (by decide +kernel), ws_of (List.mem_of_getElem? (i := 583) (by decide +kernel)) (by decide +kernel)⟩
theorem lk_RX10_171 : LKs RX10 171 mX6_order 2 := ⟨mk_X6_order, ws_of (List.mem_of_getElem? (i := 585) (by decide +kernel)) (by decide +kernel), ws_of (List.mem_of_getElem? (i := 586) (by decide +kernel)) (by decide +kernel)⟩
theorem lk_RX10_174 : LKv RX10 174 mX10_dartStands 1 8 := ⟨mk_X10_dartStands, ws_of (List.mem_of_getElem? (i := 595) (by decide +kernel)) (by decide +kernel), ws_of (List.mem_of_getElem? (i := 597) (by decide +kernel)) (by decide +kernel), ws_of (List.mem_of_getElem? (i := 9) (by decide +kernel)) (by decide +kernel), _, _, rfl⟩
theorem lk_RX10_177 : LKs RX10 177 mX6_ring 2 := ⟨mk_X6_ring, ws_of (List.mem_of_getElem? (i := 599) (by decide +kernel)) (by decide +kernel), ws_of (List.mem_of_getElem? (i := 532) (by decide +kernel)) (by decide +kernel)⟩
theorem lk_RX10_180 : LKs RX10 180 mJ6_bitCount_0f7a4 1 := ⟨mk_J6_bitCount_0f7a4, ws_of (List.mem_of_getElem? (i := 600) (by decide +kernel)) (by decide +kernel), ws_of (List.mem_of_getElem? (i := 526) (by decide +kernel)) (by decide +kernel)⟩
theorem lk_RX10_185 : LKs RX10 185 mX6_times 2 := ⟨mk_X6_times, ws_of (List.mem_of_getElem? (i := 601) (by decide +kernel)) (by decide +kernel), ws_of (List.mem_of_getElem? (i := 602) (by decide +kernel)) (by decide +kernel)⟩
theorem lk_RX10_188 : LKs RX10 188 mX6_at 2 := ⟨mk_X6_at, ws_of (List.mem_of_getElem? (i := 607) (by decide +kernel)) (by decide +kernel), ws_of (List.mem_of_getElem? (i := 435) (by decide +kernel)) (by decide +kernel)⟩
theorem lk_RX10_191 : LKs RX10 191 mX6_parts 3 := ⟨mk_X6_parts, ws_of (List.mem_of_getElem? (i := 612) (by decide +kernel)) (by decide +kernel), ws_of (List.mem_of_getElem? (i := 613) (by decide +kernel)) (by decide +kernel)⟩
theorem lk_RX10_194 : LKv RX10 194 mX10_connected 0 8 := ⟨mk_X10_connected, ws_of (List.mem_of_getElem? (i := 618) (by decide +kernel)) (by decide +kernel), ws_of (List.mem_of_getElem? (i := 620) (by decide +kernel)) (by decide +kernel), ws_of (List.mem_of_getElem? (i := 10) (by decide +kernel)) (by decide +kernel), _, _, rfl⟩
theorem lk_RX10_197 : LKs RX10 197 mX6_genus 3 := ⟨mk_X6_genus, ws_of (List.mem_of_getElem? (i := 625) (by decide +kernel)) (by decide +kernel), ws_of (List.mem_of_getElem? (i := 626) (by decide +kernel)) (by decide +kernel)⟩
theorem lk_RX10_203 : LKv RX10 203 mX2_order 3 2 := ⟨mk_X2_order, ws_of (List.mem_of_getElem? (i := 629) (by decide +kernel)) (by decide +kernel), ws_of (List.mem_of_getElem? (i := 630) (by decide +kernel)) (by decide +kernel), ws_of (List.mem_of_getElem? (i := 631) (by decide +kernel)) (by decide +kernel), _, _, rfl⟩
theorem lk_RX10_205 : LKv RX10 205 mX0_systems 3 0 := ⟨mk_X0_systems, ws_of (List.mem_of_getElem? (i := 649) (by decide +kernel)) (by decide +kernel), ws_of (List.mem_of_getElem? (i := 650) (by decide +kernel)) (by decide +kernel), ws_of (List.mem_of_getElem? (i := 651) (by decide +kernel)) (by decide +kernel), _, _, rfl⟩
theorem lk_RX10_208 : LKv RX10 208 mX8_symmetries 3 6 := ⟨mk_X8_symmetries, ws_of (List.mem_of_getElem? (i := 676) (by decide +kernel)) (by decide +kernel), ws_of (List.mem_of_getElem? (i := 677) (by decide +kernel)) (by decide +kernel), ws_of (List.mem_of_getElem? (i := 678) (by decide +kernel)) (by decide +kernel), _, _, rfl⟩
theorem lk_RX10_211 : LKv RX10 211 mX10_siblings 0 8 := ⟨mk_X10_siblings, ws_of (List.mem_of_getElem? (i := 686) (by decide +kernel)) (by decide +kernel), ws_of (List.mem_of_getElem? (i := 688) (by decide +kernel)) (by decide +kernel), ws_of (List.mem_of_getElem? (i := 16) (by decide +kernel)) (by decide +kernel), _, _, rfl⟩
theorem lk_RX10_220 : LKs RX10 220 mX6_joined 3 := ⟨mk_X6_joined, ws_of (List.mem_of_getElem? (i := 622) (by decide +kernel)) (by decide +kernel), ws_of (List.mem_of_getElem? (i := 623) (by decide +kernel)) (by decide +kernel)⟩
theorem lk_RX10_224 : LKv RX10 224 mX1_list 5 1 := ⟨mk_X1_list, ws_of (List.mem_of_getElem? (i := 690) (by decide +kernel)) (by decide +kernel), ws_of (List.mem_of_getElem? (i := 691) (by decide +kernel)) (by decide +kernel), ws_of (List.mem_of_getElem? (i := 692) (by decide +kernel)) (by decide +kernel), _, _, rfl⟩
theorem lk_RX10_231 : LKv RX10 231 mX1_auts 1 1 := ⟨mk_X1_auts, ws_of (List.mem_of_getElem? (i := 726) (by decide +kernel)) (by decide +kernel), ws_of (List.mem_of_getElem? (i := 727) (by decide +kernel)) (by decide +kernel), ws_of (List.mem_of_getElem? (i := 728) (by decide +kernel)) (by decide +kernel), _, _, rfl⟩
theorem lk_RX10_235 : LKv RX10 235 mX1_white 1 1 := ⟨mk_X1_white, ws_of (List.mem_of_getElem? (i := 730) (by decide +kernel)) (by decide +kernel), ws_of (List.mem_of_getElem? (i := 731) (by decide +kernel)) (by decide +kernel), ws_of (List.mem_of_getElem? (i := 732) (by decide +kernel)) (by decide +kernel), _, _, rfl⟩
theorem lk_RX10_237 : LKs RX10 237 mX6_reach 3 := ⟨mk_X6_reach, ws_of (List.mem_of_getElem? (i := 738) (by decide +kernel)) (by decide +kernel), ws_of (List.mem_of_getElem? (i := 616) (by decide +kernel)) (by decide +kernel)⟩
theorem lk_RX10_240 : LKs RX10 240 mX6_lowest 1 := ⟨mk_X6_lowest, ws_of (List.mem_of_getElem? (i := 739) (by decide +kernel)) (by decide +kernel), ws_of (List.mem_of_getElem? (i := 523) (by decide +kernel)) (by decide +kernel)⟩
theorem lk_RX10_243 : LKs RX10 243 mX6_nthLeast 3 := ⟨mk_X6_nthLeast, ws_of (List.mem_of_getElem? (i := 748) (by decide +kernel)) (by decide +kernel), ws_of (List.mem_of_getElem? (i := 749) (by decide +kernel)) (by decide +kernel)⟩
theorem lk_RX10_246 : LKv RX10 246 mX8_first 5 6 := ⟨mk_X8_first, ws_of (List.mem_of_getElem? (i := 758) (by decide +kernel)) (by decide +kernel), ws_of (List.mem_of_getElem? (i := 683) (by decide +kernel)) (by decide +kernel), ws_of (List.mem_of_getElem? (i := 684) (by decide +kernel)) (by decide +kernel), _, _, rfl⟩
theorem lk_RX10_250 : LKv RX10 250 mX10_kindStands 1 8 := ⟨mk_X10_kindStands, ws_of (List.mem_of_getElem? (i := 767) (by decide +kernel)) (by decide +kernel), ws_of (List.mem_of_getElem? (i := 769) (by decide +kernel)) (by decide +kernel), ws_of (List.mem_of_getElem? (i := 19) (by decide +kernel)) (by decide +kernel), _, _, rfl⟩
theorem lk_RX10_253 : LKv RX10 253 mX4_fill 3 4 := ⟨mk_X4_fill, ws_of (List.mem_of_getElem? (i := 784) (by decide +kernel)) (by decide +kernel), ws_of (List.mem_of_getElem? (i := 785) (by decide +kernel)) (by decide +kernel), ws_of (List.mem_of_getElem? (i := 786) (by decide +kernel)) (by decide +kernel), _, _, rfl⟩
theorem lk_RX10_256 : LKv RX10 256 mX4_ofKind 1 4 := ⟨mk_X4_ofKind, ws_of (List.mem_of_getElem? (i := 800) (by decide +kernel)) (by decide +kernel), ws_of (List.mem_of_getElem? (i := 801) (by decide +kernel)) (by decide +kernel), ws_of (List.mem_of_getElem? (i := 802) (by decide +kernel)) (by decide +kernel), _, _, rfl⟩
theorem lk_RX10_259 : LKs RX10 259 mX5_index 2 := ⟨mk_X5_index, ws_of (List.mem_of_getElem? (i := 771) (by decide +kernel)) (by decide +kernel), ws_of (List.mem_of_getElem? (i := 772) (by decide +kernel)) (by decide +kernel)⟩
theorem lk_RX10_264 : LKv RX10 264 mX4_centre 0 4 := ⟨mk_X4_centre, ws_of (List.mem_of_getElem? (i := 809) (by decide +kernel)) (by decide +kernel), ws_of (List.mem_of_getElem? (i := 810) (by decide +kernel)) (by decide +kernel), ws_of (List.mem_of_getElem? (i := 811) (by decide +kernel)) (by decide +kernel), _, _, rfl⟩
theorem lk_RX10_267 : LKv RX10 267 mX4_ofOrder 1 4 := ⟨mk_X4_ofOrder, ws_of (List.mem_of_getElem? (i := 816) (by decide +kernel)) (by decide +kernel), ws_of (List.mem_of_getElem? (i := 817) (by decide +kernel)) (by decide +kernel), ws_of (List.mem_of_getElem? (i := 818) (by decide +kernel)) (by decide +kernel), _, _, rfl⟩
theorem lk_RX10_270 : LKv RX10 270 mX4_turnsTo 1 4 := ⟨mk_X4_turnsTo, ws_of (List.mem_of_getElem? (i := 825) (by decide +kernel)) (by decide +kernel), ws_of (List.mem_of_getElem? (i := 796) (by decide +kernel)) (by decide +kernel), ws_of (List.mem_of_getElem? (i := 797) (by decide +kernel)) (by decide +kernel), _, _, rfl⟩
theorem lk_RX10_273 : LKv RX10 273 mX0_find 4 0 := ⟨mk_X0_find, ws_of (List.mem_of_getElem? (i := 830) (by decide +kernel)) (by decide +kernel), ws_of (List.mem_of_getElem? (i := 654) (by decide +kernel)) (by decide +kernel), ws_of (List.mem_of_getElem? (i := 655) (by decide +kernel)) (by decide +kernel), _, _, rfl⟩
theorem lk_RX10_277 : LKv RX10 277 mX0_withDartOne 0 0 := ⟨mk_X0_withDartOne, ws_of (List.mem_of_getElem? (i := 831) (by decide +kernel)) (by decide +kernel), ws_of (List.mem_of_getElem? (i := 832) (by decide +kernel)) (by decide +kernel), ws_of (List.mem_of_getElem? (i := 833) (by decide +kernel)) (by decide +kernel), _, _, rfl⟩
theorem lk_RX10_280 : LKv RX10 280 mX0_smaller 1 0 := ⟨mk_X0_smaller, ws_of (List.mem_of_getElem? (i := 835) (by decide +kernel)) (by decide +kernel), ws_of (List.mem_of_getElem? (i := 836) (by decide +kernel)) (by decide +kernel), ws_of (List.mem_of_getElem? (i := 837) (by decide +kernel)) (by decide +kernel), _, _, rfl⟩
theorem lk_RX10_283 : LKs RX10 283 mX5_many 1 := ⟨mk_X5_many, ws_of (List.mem_of_getElem? (i := 843) (by decide +kernel)) (by decide +kernel), ws_of (List.mem_of_getElem? (i := 775) (by decide +kernel)) (by decide +kernel)⟩
theorem lk_RX10_286 : LKs RX10 286 mX5_nth 2 := ⟨mk_X5_nth, ws_of (List.mem_of_getElem? (i := 844) (by decide +kernel)) (by decide +kernel), ws_of (List.mem_of_getElem? (i := 780) (by decide +kernel)) (by decide +kernel)⟩
theorem lk_RX10_289 : LKs RX10 289 mX5_members 2 := ⟨mk_X5_members, ws_of (List.mem_of_getElem? (i := 849) (by decide +kernel)) (by decide +kernel), ws_of (List.mem_of_getElem? (i := 850) (by decide +kernel)) (by decide +kernel)⟩
theorem lk_RX10_292 : LKs RX10 292 mX5_value 2 := ⟨mk_X5_value, ws_of (List.mem_of_getElem? (i := 857) (by decide +kernel)) (by decide +kernel), ws_of (List.mem_of_getElem? (i := 858) (by decide +kernel)) (by decide +kernel)⟩
theorem lk_RX10_298 : LKv RX10 298 mX1_tally 3 1 := ⟨mk_X1_tally, ws_of (List.mem_of_getElem? (i := 870) (by decide +kernel)) (by decide +kernel), ws_of (List.mem_of_getElem? (i := 871) (by decide +kernel)) (by decide +kernel), ws_of (List.mem_of_getElem? (i := 872) (by decide +kernel)) (by decide +kernel), _, _, rfl⟩
theorem lk_RX10_301 : LKv RX10 301 mX1_found 1 1 := ⟨mk_X1_found, ws_of (List.mem_of_getElem? (i := 879) (by decide +kernel)) (by decide +kernel), ws_of (List.mem_of_getElem? (i := 880) (by decide +kernel)) (by decide +kernel), ws_of (List.mem_of_getElem? (i := 881) (by decide +kernel)) (by decide +kernel), _, _, rfl⟩
theorem lk_RX10_304 : LKv RX10 304 mX10_connectedMaps 3 8 := ⟨mk_X10_connectedMaps, ws_of (List.mem_of_getElem? (i := 883) (by decide +kernel)) (by decide +kernel), ws_of (List.mem_of_getElem? (i := 885) (by decide +kernel)) (by decide +kernel), ws_of (List.mem_of_getElem? (i := 22) (by decide +kernel)) (by decide +kernel), _, _, rfl⟩
theorem lk_RX10_308 : LKs RX10 308 mX5_byCharacters 4 := ⟨mk_X5_byCharacters, ws_of (List.mem_of_getElem? (i := 891) (by decide +kernel)) (by decide +kernel), ws_of (List.mem_of_getElem? (i := 892) (by decide +kernel)) (by decide +kernel)⟩
theorem lk_RX10_312 : LKv RX10 312 mX1_foundConnected 1 1 := ⟨mk_X1_foundConnected, ws_of (List.mem_of_getElem? (i := 887) (by decide +kernel)) (by decide +kernel), ws_of (List.mem_of_getElem? (i := 888) (by decide +kernel)) (by decide +kernel), ws_of (List.mem_of_getElem? (i := 889) (by decide +kernel)) (by decide +kernel), _, _, rfl⟩
theorem lk_RX10_315 : LKv RX10 315 mX10_ofClass 4 8 := ⟨mk_X10_ofClass, ws_of (List.mem_of_getElem? (i := 900) (by decide +kernel)) (by decide +kernel), ws_of (List.mem_of_getElem? (i := 902) (by decide +kernel)) (by decide +kernel), ws_of (List.mem_of_getElem? (i := 23) (by decide +kernel)) (by decide +kernel), _, _, rfl⟩
theorem lk_RX10_319 : LKs RX10 319 mX5_factorial 1 := ⟨mk_X5_factorial, ws_of (List.mem_of_getElem? (i := 908) (by decide +kernel)) (by decide +kernel), ws_of (List.mem_of_getElem? (i := 699) (by decide +kernel)) (by decide +kernel)⟩
theorem lk_RX10_322 : LKs RX10 322 mX10_common 2 := ⟨mk_X10_common, ws_of (List.mem_of_getElem? (i := 909) (by decide +kernel)) (by decide +kernel), ws_of (List.mem_of_getElem? (i := 910) (by decide +kernel)) (by decide +kernel)⟩
theorem lk_RX10_326 : LKs RX10 326 mX5_parts 1 := ⟨mk_X5_parts, ws_of (List.mem_of_getElem? (i := 916) (by decide +kernel)) (by decide +kernel), ws_of (List.mem_of_getElem? (i := 917) (by decide +kernel)) (by decide +kernel)⟩
theorem lk_RX10_328 : LKv RX10 328 mX3_gather 4 3 := ⟨mk_X3_gather, ws_of (List.mem_of_getElem? (i := 927) (by decide +kernel)) (by decide +kernel), ws_of (List.mem_of_getElem? (i := 928) (by decide +kernel)) (by decide +kernel), ws_of (List.mem_of_getElem? (i := 929) (by decide +kernel)) (by decide +kernel), _, _, rfl⟩
theorem lk_RX10_334 : LKv RX10 334 mX3_black 1 3 := ⟨mk_X3_black, ws_of (List.mem_of_getElem? (i := 946) (by decide +kernel)) (by decide +kernel), ws_of (List.mem_of_getElem? (i := 947) (by decide +kernel)) (by decide +kernel), ws_of (List.mem_of_getElem? (i := 948) (by decide +kernel)) (by decide +kernel), _, _, rfl⟩
theorem lk_RX10_336 : LKv RX10 336 mX3_white 1 3 := ⟨mk_X3_white, ws_of (List.mem_of_getElem? (i := 951) (by decide +kernel)) (by decide +kernel), ws_of (List.mem_of_getElem? (i := 952) (by decide +kernel)) (by decide +kernel), ws_of (List.mem_of_getElem? (i := 953) (by decide +kernel)) (by decide +kernel), _, _, rfl⟩
theorem lk_RX10_337 : LKv RX10 337 mX10_spelt 1 8 := ⟨mk_X10_spelt, ws_of (List.mem_of_getElem? (i := 959) (by decide +kernel)) (by decide +kernel), ws_of (List.mem_of_getElem? (i := 961) (by decide +kernel)) (by decide +kernel), ws_of (List.mem_of_getElem? (i := 27) (by decide +kernel)) (by decide +kernel), _, _, rfl⟩
theorem lk_RX10_340 : LKv RX10 340 mX10_letter 1 8 := ⟨mk_X10_letter, ws_of (List.mem_of_getElem? (i := 963) (by decide +kernel)) (by decide +kernel), ws_of (List.mem_of_getElem? (i := 965) (by decide +kernel)) (by decide +kernel), ws_of (List.mem_of_getElem? (i := 28) (by decide +kernel)) (by decide +kernel), _, _, rfl⟩
theorem lk_RX10_343 : LKs RX10 343 mX6_then 2 := ⟨mk_X6_then, ws_of (List.mem_of_getElem? (i := 968) (by decide +kernel)) (by decide +kernel), ws_of (List.mem_of_getElem? (i := 432) (by decide +kernel)) (by decide +kernel)⟩
theorem lk_RX10_346 : LKs RX10 346 mX6_back 1 := ⟨mk_X6_back, ws_of (List.mem_of_getElem? (i := 967) (by decide +kernel)) (by decide +kernel), ws_of (List.mem_of_getElem? (i := 438) (by decide +kernel)) (by decide +kernel)⟩
theorem lk_RX10_349 : LKv RX10 349 mX1_prepare 1 1 := ⟨mk_X1_prepare, ws_of (List.mem_of_getElem? (i := 981) (by decide +kernel)) (by decide +kernel), ws_of (List.mem_of_getElem? (i := 695) (by decide +kernel)) (by decide +kernel), ws_of (List.mem_of_getElem? (i := 696) (by decide +kernel)) (by decide +kernel), _, _, rfl⟩
theorem lk_RX10_352 : LKv RX10 352 mX1_permutation 1 1 := ⟨mk_X1_permutation, ws_of (List.mem_of_getElem? (i := 982) (by decide +kernel)) (by decide +kernel), ws_of (List.mem_of_getElem? (i := 983) (by decide +kernel)) (by decide +kernel), ws_of (List.mem_of_getElem? (i := 984) (by decide +kernel)) (by decide +kernel), _, _, rfl⟩
theorem lk_RX10_354 : LKs RX10 354 mX6_isRoot 3 := ⟨mk_X6_isRoot, ws_of (List.mem_of_getElem? (i := 986) (by decide +kernel)) (by decide +kernel), ws_of (List.mem_of_getElem? (i := 987) (by decide +kernel)) (by decide +kernel)⟩
theorem lk_RX10_357 : LKs RX10 357 mX6_relabelled 2 := ⟨mk_X6_relabelled, ws_of (List.mem_of_getElem? (i := 993) (by decide +kernel)) (by decide +kernel), ws_of (List.mem_of_getElem? (i := 563) (by decide +kernel)) (by decide +kernel)⟩
theorem lk_RX10_360 : LKs RX10 360 mX6_swap 2 := ⟨mk_X6_swap, ws_of (List.mem_of_getElem? (i := 994) (by decide +kernel)) (by decide +kernel), ws_of (List.mem_of_getElem? (i := 814) (by decide +kernel)) (by decide +kernel)⟩
theorem lk_RX10_364 : LKs RX10 364 mX6_bit 1 := ⟨mk_X6_bit, ws_of (List.mem_of_getElem? (i := 999) (by decide +kernel)) (by decide +kernel), ws_of (List.mem_of_getElem? (i := 419) (by decide +kernel)) (by decide +kernel)⟩
theorem lk_RX10_367 : LKs RX10 367 mX6_around 3 := ⟨mk_X6_around, ws_of (List.mem_of_getElem? (i := 1000) (by decide +kernel)) (by decide +kernel), ws_of (List.mem_of_getElem? (i := 1001) (by decide +kernel)) (by decide +kernel)⟩
theorem lk_RX10_370 : LKv RX10 370 mX9_placeOf 3 7 := ⟨mk_X9_placeOf, ws_of (List.mem_of_getElem? (i := 1011) (by decide +kernel)) (by decide +kernel), ws_of (List.mem_of_getElem? (i := 1012) (by decide +kernel)) (by decide +kernel), ws_of (List.mem_of_getElem? (i := 1013) (by decide +kernel)) (by decide +kernel), _, _, rfl⟩
theorem lk_RX10_373 : LKv RX10 373 mX9_add 3 7 := ⟨mk_X9_add, ws_of (List.mem_of_getElem? (i := 1015) (by decide +kernel)) (by decide +kernel), ws_of (List.mem_of_getElem? (i := 1016) (by decide +kernel)) (by decide +kernel), ws_of (List.mem_of_getElem? (i := 1017) (by decide +kernel)) (by decide +kernel), _, _, rfl⟩
theorem lk_RX10_384 : LKv RX10 384 mX9_become 1 7 := ⟨mk_X9_become, ws_of (List.mem_of_getElem? (i := 1031) (by decide +kernel)) (by decide +kernel), ws_of (List.mem_of_getElem? (i := 1032) (by decide +kernel)) (by decide +kernel), ws_of (List.mem_of_getElem? (i := 1033) (by decide +kernel)) (by decide +kernel), _, _, rfl⟩
theorem lk_RX11_117 : LKv RX11 117 mX11_begins 1 9 := ⟨mk_X11_begins, ws_of (List.mem_of_getElem? (i := 1045) (by decide +kernel)) (by decide +kernel), ws_of (List.mem_of_getElem? (i := 1047) (by decide +kernel)) (by decide +kernel), ws_of (List.mem_of_getElem? (i := 29) (by decide +kernel)) (by decide +kernel), _, _, rfl⟩
theorem lk_RX11_121 : LKs RX11 121 mX11_in 3 := ⟨mk_X11_in, ws_of (List.mem_of_getElem? (i := 1280) (by decide +kernel)) (by decide +kernel), ws_of (List.mem_of_getElem? (i := 1281) (by decide +kernel)) (by decide +kernel)⟩
theorem lk_RX11_129 : LKv RX11 129 mX11_isDart 1 9 := ⟨mk_X11_isDart, ws_of (List.mem_of_getElem? (i := 1291) (by decide +kernel)) (by decide +kernel), ws_of (List.mem_of_getElem? (i := 1293) (by decide +kernel)) (by decide +kernel), ws_of (List.mem_of_getElem? (i := 42) (by decide +kernel)) (by decide +kernel), _, _, rfl⟩
theorem lk_RX11_133 : LKv RX11 133 mX11_reads 2 9 := ⟨mk_X11_reads, ws_of (List.mem_of_getElem? (i := 1069) (by decide +kernel)) (by decide +kernel), ws_of (List.mem_of_getElem? (i := 1071) (by decide +kernel)) (by decide +kernel), ws_of (List.mem_of_getElem? (i := 35) (by decide +kernel)) (by decide +kernel), _, _, rfl⟩
theorem lk_RX11_137 : LKv RX11 137 mX11_told 1 9 := ⟨mk_X11_told, ws_of (List.mem_of_getElem? (i := 1057) (by decide +kernel)) (by decide +kernel), ws_of (List.mem_of_getElem? (i := 1059) (by decide +kernel)) (by decide +kernel), ws_of (List.mem_of_getElem? (i := 32) (by decide +kernel)) (by decide +kernel), _, _, rfl⟩
theorem lk_RX11_141 : LKv RX11 141 mX11_then 2 9 := ⟨mk_X11_then, ws_of (List.mem_of_getElem? (i := 1303) (by decide +kernel)) (by decide +kernel), ws_of (List.mem_of_getElem? (i := 1305) (by decide +kernel)) (by decide +kernel), ws_of (List.mem_of_getElem? (i := 45) (by decide +kernel)) (by decide +kernel), _, _, rfl⟩
theorem lk_RX11_145 : LKv RX11 145 mX11_back 1 9 := ⟨mk_X11_back, ws_of (List.mem_of_getElem? (i := 1307) (by decide +kernel)) (by decide +kernel), ws_of (List.mem_of_getElem? (i := 1309) (by decide +kernel)) (by decide +kernel), ws_of (List.mem_of_getElem? (i := 46) (by decide +kernel)) (by decide +kernel), _, _, rfl⟩
theorem lk_RX11_155 : LKv RX11 155 mX11_facesOf 2 9 := ⟨mk_X11_facesOf, ws_of (List.mem_of_getElem? (i := 1299) (by decide +kernel)) (by decide +kernel), ws_of (List.mem_of_getElem? (i := 1301) (by decide +kernel)) (by decide +kernel), ws_of (List.mem_of_getElem? (i := 44) (by decide +kernel)) (by decide +kernel), _, _, rfl⟩
theorem lk_RX11_158 : LKv RX11 158 mX11_isLeast 2 9 := ⟨mk_X11_isLeast, ws_of (List.mem_of_getElem? (i := 1065) (by decide +kernel)) (by decide +kernel), ws_of (List.mem_of_getElem? (i := 1067) (by decide +kernel)) (by decide +kernel), ws_of (List.mem_of_getElem? (i := 34) (by decide +kernel)) (by decide +kernel), _, _, rfl⟩
theorem lk_RX11_162 : LKv RX11 162 mX11_cycleLong 2 9 := ⟨mk_X11_cycleLong, ws_of (List.mem_of_getElem? (i := 1073) (by decide +kernel)) (by decide +kernel), ws_of (List.mem_of_getElem? (i := 1075) (by decide +kernel)) (by decide +kernel), ws_of (List.mem_of_getElem? (i := 36) (by decide +kernel)) (by decide +kernel), _, _, rfl⟩
theorem lk_RX11_171 : LKv RX11 171 mX11_typeOf 1 9 := ⟨mk_X11_typeOf, ws_of (List.mem_of_getElem? (i := 1061) (by decide +kernel)) (by decide +kernel), ws_of (List.mem_of_getElem? (i := 1063) (by decide +kernel)) (by decide +kernel), ws_of (List.mem_of_getElem? (i := 33) (by decide +kernel)) (by decide +kernel), _, _, rfl⟩
theorem lk_RX11_174 : LKv RX11 174 mX11_goesOn 1 9 := ⟨mk_X11_goesOn, ws_of (List.mem_of_getElem? (i := 1077) (by decide +kernel)) (by decide +kernel), ws_of (List.mem_of_getElem? (i := 1079) (by decide +kernel)) (by decide +kernel), ws_of (List.mem_of_getElem? (i := 37) (by decide +kernel)) (by decide +kernel), _, _, rfl⟩
theorem lk_RX11_178 : LKv RX11 178 mX11_kindOf 1 9 := ⟨mk_X11_kindOf, ws_of (List.mem_of_getElem? (i := 1081) (by decide +kernel)) (by decide +kernel), ws_of (List.mem_of_getElem? (i := 1083) (by decide +kernel)) (by decide +kernel), ws_of (List.mem_of_getElem? (i := 38) (by decide +kernel)) (by decide +kernel), _, _, rfl⟩
theorem lk_RX11_181 : LKv RX11 181 mX11_laysAll 0 9 := ⟨mk_X11_laysAll, ws_of (List.mem_of_getElem? (i := 1053) (by decide +kernel)) (by decide +kernel), ws_of (List.mem_of_getElem? (i := 1055) (by decide +kernel)) (by decide +kernel), ws_of (List.mem_of_getElem? (i := 31) (by decide +kernel)) (by decide +kernel), _, _, rfl⟩
theorem lk_RX11_184 : LKv RX11 184 mX11_becomes 1 9 := ⟨mk_X11_becomes, ws_of (List.mem_of_getElem? (i := 1049) (by decide +kernel)) (by decide +kernel), ws_of (List.mem_of_getElem? (i := 1051) (by decide +kernel)) (by decide +kernel), ws_of (List.mem_of_getElem? (i := 30) (by decide +kernel)) (by decide +kernel), _, _, rfl⟩
theorem lk_RX11_187 : LKv RX11 187 mX11_stays 0 9 := ⟨mk_X11_stays, ws_of (List.mem_of_getElem? (i := 1085) (by decide +kernel)) (by decide +kernel), ws_of (List.mem_of_getElem? (i := 1087) (by decide +kernel)) (by decide +kernel), ws_of (List.mem_of_getElem? (i := 39) (by decide +kernel)) (by decide +kernel), _, _, rfl⟩
theorem lk_RX11_194 : LKv RX11 194 mX11_typed4 1 9 := ⟨mk_X11_typed4, ws_of (List.mem_of_getElem? (i := 1272) (by decide +kernel)) (by decide +kernel), ws_of (List.mem_of_getElem? (i := 1274) (by decide +kernel)) (by decide +kernel), ws_of (List.mem_of_getElem? (i := 40) (by decide +kernel)) (by decide +kernel), _, _, rfl⟩
theorem lk_RX11_197 : LKv RX11 197 mX11_isCode 1 9 := ⟨mk_X11_isCode, ws_of (List.mem_of_getElem? (i := 1287) (by decide +kernel)) (by decide +kernel), ws_of (List.mem_of_getElem? (i := 1289) (by decide +kernel)) (by decide +kernel), ws_of (List.mem_of_getElem? (i := 41) (by decide +kernel)) (by decide +kernel), _, _, rfl⟩
theorem lk_RX11_200 : LKv RX11 200 mX11_codeOf 1 9 := ⟨mk_X11_codeOf, ws_of (List.mem_of_getElem? (i := 1295) (by decide +kernel)) (by decide +kernel), ws_of (List.mem_of_getElem? (i := 1297) (by decide +kernel)) (by decide +kernel), ws_of (List.mem_of_getElem? (i := 43) (by decide +kernel)) (by decide +kernel), _, _, rfl⟩
theorem lk_RX11_203 : LKv RX11 203 mX11_puts 2 9 := ⟨mk_X11_puts, ws_of (List.mem_of_getElem? (i := 1311) (by decide +kernel)) (by decide +kernel), ws_of (List.mem_of_getElem? (i := 1313) (by decide +kernel)) (by decide +kernel), ws_of (List.mem_of_getElem? (i := 47) (by decide +kernel)) (by decide +kernel), _, _, rfl⟩
theorem lk_RX11_216 : LKv RX11 216 mX11_see 0 9 := ⟨mk_X11_see, ws_of (List.mem_of_getElem? (i := 1323) (by decide +kernel)) (by decide +kernel), ws_of (List.mem_of_getElem? (i := 1325) (by decide +kernel)) (by decide +kernel), ws_of (List.mem_of_getElem? (i := 49) (by decide +kernel)) (by decide +kernel), _, _, rfl⟩
theorem lk_RX11_219 : LKv RX11 219 mX11_wrong 1 9 := ⟨mk_X11_wrong, ws_of (List.mem_of_getElem? (i := 1327) (by decide +kernel)) (by decide +kernel), ws_of (List.mem_of_getElem? (i := 1329) (by decide +kernel)) (by decide +kernel), ws_of (List.mem_of_getElem? (i := 50) (by decide +kernel)) (by decide +kernel), _, _, rfl⟩
theorem lk_RX11_222 : LKv RX11 222 mX11_hasText 1 9 := ⟨mk_X11_hasText, ws_of (List.mem_of_getElem? (i := 1319) (by decide +kernel)) (by decide +kernel), ws_of (List.mem_of_getElem? (i := 1321) (by decide +kernel)) (by decide +kernel), ws_of (List.mem_of_getElem? (i := 48) (by decide +kernel)) (by decide +kernel), _, _, rfl⟩
theorem lk_RX11_225 : LKv RX11 225 mX11_readsCycle 1 9 := ⟨mk_X11_readsCycle, ws_of (List.mem_of_getElem? (i := 1331) (by decide +kernel)) (by decide +kernel), ws_of (List.mem_of_getElem? (i := 1333) (by decide +kernel)) (by decide +kernel), ws_of (List.mem_of_getElem? (i := 51) (by decide +kernel)) (by decide +kernel), _, _, rfl⟩
theorem lk_RX11_232 : LKv RX11 232 mX11_draw 1 9 := ⟨mk_X11_draw, ws_of (List.mem_of_getElem? (i := 1344) (by decide +kernel)) (by decide +kernel), ws_of (List.mem_of_getElem? (i := 1346) (by decide +kernel)) (by decide +kernel), ws_of (List.mem_of_getElem? (i := 53) (by decide +kernel)) (by decide +kernel), _, _, rfl⟩
theorem lk_RX11_236 : LKv RX11 236 mX11_drawnOne 0 9 := ⟨mk_X11_drawnOne, ws_of (List.mem_of_getElem? (i := 1340) (by decide +kernel)) (by decide +kernel), ws_of (List.mem_of_getElem? (i := 1342) (by decide +kernel)) (by decide +kernel), ws_of (List.mem_of_getElem? (i := 52) (by decide +kernel)) (by decide +kernel), _, _, rfl⟩
theorem lk_RX11_245 : LKv RX11 245 mX11_operates 3 9 := ⟨mk_X11_operates, ws_of (List.mem_of_getElem? (i := 1353) (by decide +kernel)) (by decide +kernel), ws_of (List.mem_of_getElem? (i := 1355) (by decide +kernel)) (by decide +kernel), ws_of (List.mem_of_getElem? (i := 54) (by decide +kernel)) (by decide +kernel), _, _, rfl⟩
theorem lk_RX11_252 : LKv RX11 252 mX11_relabelled 2 9 := ⟨mk_X11_relabelled, ws_of (List.mem_of_getElem? (i := 1365) (by decide +kernel)) (by decide +kernel), ws_of (List.mem_of_getElem? (i := 1367) (by decide +kernel)) (by decide +kernel), ws_of (List.mem_of_getElem? (i := 56) (by decide +kernel)) (by decide +kernel), _, _, rfl⟩
theorem lk_RX11_258 : LKv RX11 258 mX11_laysCanon 2 9 := ⟨mk_X11_laysCanon, ws_of (List.mem_of_getElem? (i := 1361) (by decide +kernel)) (by decide +kernel), ws_of (List.mem_of_getElem? (i := 1363) (by decide +kernel)) (by decide +kernel), ws_of (List.mem_of_getElem? (i := 55) (by decide +kernel)) (by decide +kernel), _, _, rfl⟩
theorem lk_RX11_261 : LKs RX11 261 mX11_isThree 1 := ⟨mk_X11_isThree, ws_of (List.mem_of_getElem? (i := 1373) (by decide +kernel)) (by decide +kernel), ws_of (List.mem_of_getElem? (i := 1374) (by decide +kernel)) (by decide +kernel)⟩
theorem lk_RX11_264 : LKv RX11 264 mX11_labelOf 2 9 := ⟨mk_X11_labelOf, ws_of (List.mem_of_getElem? (i := 1380) (by decide +kernel)) (by decide +kernel), ws_of (List.mem_of_getElem? (i := 1382) (by decide +kernel)) (by decide +kernel), ws_of (List.mem_of_getElem? (i := 57) (by decide +kernel)) (by decide +kernel), _, _, rfl⟩
theorem lk_RX11_267 : LKv RX11 267 mX11_cyclesOf 1 9 := ⟨mk_X11_cyclesOf, ws_of (List.mem_of_getElem? (i := 1400) (by decide +kernel)) (by decide +kernel), ws_of (List.mem_of_getElem? (i := 1402) (by decide +kernel)) (by decide +kernel), ws_of (List.mem_of_getElem? (i := 58) (by decide +kernel)) (by decide +kernel), _, _, rfl⟩
theorem lk_RX11_270 : LKv RX11 270 mX11_orderOf 1 9 := ⟨mk_X11_orderOf, ws_of (List.mem_of_getElem? (i := 1404) (by decide +kernel)) (by decide +kernel), ws_of (List.mem_of_getElem? (i := 1406) (by decide +kernel)) (by decide +kernel), ws_of (List.mem_of_getElem? (i := 59) (by decide +kernel)) (by decide +kernel), _, _, rfl⟩
theorem lk_RX11_273 : LKv RX11 273 mX11_bringsTo 2 9 := ⟨mk_X11_bringsTo, ws_of (List.mem_of_getElem? (i := 1408) (by decide +kernel)) (by decide +kernel), ws_of (List.mem_of_getElem? (i := 1410) (by decide +kernel)) (by decide +kernel), ws_of (List.mem_of_getElem? (i := 60) (by decide +kernel)) (by decide +kernel), _, _, rfl⟩
theorem lk_RX11_276 : LKv RX11 276 mX11_partOf 3 9 := ⟨mk_X11_partOf, ws_of (List.mem_of_getElem? (i := 1424) (by decide +kernel)) (by decide +kernel), ws_of (List.mem_of_getElem? (i := 1426) (by decide +kernel)) (by decide +kernel), ws_of (List.mem_of_getElem? (i := 61) (by decide +kernel)) (by decide +kernel), _, _, rfl⟩
theorem lk_RX11_280 : LKv RX11 280 mX11_isConnected 2 9 := ⟨mk_X11_isConnected, ws_of (List.mem_of_getElem? (i := 1471) (by decide +kernel)) (by decide +kernel), ws_of (List.mem_of_getElem? (i := 1473) (by decide +kernel)) (by decide +kernel), ws_of (List.mem_of_getElem? (i := 68) (by decide +kernel)) (by decide +kernel), _, _, rfl⟩
theorem lk_RX11_283 : LKs RX11 283 mX11_bits 1 := ⟨mk_X11_bits, ws_of (List.mem_of_getElem? (i := 1428) (by decide +kernel)) (by decide +kernel), ws_of (List.mem_of_getElem? (i := 1429) (by decide +kernel)) (by decide +kernel)⟩
theorem lk_RX11_286 : LKv RX11 286 mX11_placeOf 1 9 := ⟨mk_X11_placeOf, ws_of (List.mem_of_getElem? (i := 1443) (by decide +kernel)) (by decide +kernel), ws_of (List.mem_of_getElem? (i := 1445) (by decide +kernel)) (by decide +kernel), ws_of (List.mem_of_getElem? (i := 64) (by decide +kernel)) (by decide +kernel), _, _, rfl⟩
theorem lk_RX11_292 : LKv RX11 292 mX11_meets 2 9 := ⟨mk_X11_meets, ws_of (List.mem_of_getElem? (i := 1439) (by decide +kernel)) (by decide +kernel), ws_of (List.mem_of_getElem? (i := 1441) (by decide +kernel)) (by decide +kernel), ws_of (List.mem_of_getElem? (i := 63) (by decide +kernel)) (by decide +kernel), _, _, rfl⟩
theorem lk_RX11_295 : LKv RX11 295 mX11_laysGroup 2 9 := ⟨mk_X11_laysGroup, ws_of (List.mem_of_getElem? (i := 1435) (by decide +kernel)) (by decide +kernel), ws_of (List.mem_of_getElem? (i := 1437) (by decide +kernel)) (by decide +kernel), ws_of (List.mem_of_getElem? (i := 62) (by decide +kernel)) (by decide +kernel), _, _, rfl⟩
theorem lk_RX11_298 : LKv RX11 298 mX11_lengthOf 1 9 := ⟨mk_X11_lengthOf, ws_of (List.mem_of_getElem? (i := 1455) (by decide +kernel)) (by decide +kernel), ws_of (List.mem_of_getElem? (i := 1457) (by decide +kernel)) (by decide +kernel), ws_of (List.mem_of_getElem? (i := 65) (by decide +kernel)) (by decide +kernel), _, _, rfl⟩
theorem lk_RX11_304 : LKv RX11 304 mX11_image 2 9 := ⟨mk_X11_image, ws_of (List.mem_of_getElem? (i := 1479) (by decide +kernel)) (by decide +kernel), ws_of (List.mem_of_getElem? (i := 1481) (by decide +kernel)) (by decide +kernel), ws_of (List.mem_of_getElem? (i := 70) (by decide +kernel)) (by decide +kernel), _, _, rfl⟩
theorem lk_RX11_308 : LKv RX11 308 mX11_fits 1 9 := ⟨mk_X11_fits, ws_of (List.mem_of_getElem? (i := 1483) (by decide +kernel)) (by decide +kernel), ws_of (List.mem_of_getElem? (i := 1485) (by decide +kernel)) (by decide +kernel), ws_of (List.mem_of_getElem? (i := 71) (by decide +kernel)) (by decide +kernel), _, _, rfl⟩
theorem lk_RX11_311 : LKv RX11 311 mX11_isOne 0 9 := ⟨mk_X11_isOne, ws_of (List.mem_of_getElem? (i := 1467) (by decide +kernel)) (by decide +kernel), ws_of (List.mem_of_getElem? (i := 1469) (by decide +kernel)) (by decide +kernel), ws_of (List.mem_of_getElem? (i := 67) (by decide +kernel)) (by decide +kernel), _, _, rfl⟩
theorem lk_RX11_315 : LKv RX11 315 mX11_isSystem 1 9 := ⟨mk_X11_isSystem, ws_of (List.mem_of_getElem? (i := 1475) (by decide +kernel)) (by decide +kernel), ws_of (List.mem_of_getElem? (i := 1477) (by decide +kernel)) (by decide +kernel), ws_of (List.mem_of_getElem? (i := 69) (by decide +kernel)) (by decide +kernel), _, _, rfl⟩
theorem lk_RX11_324 : LKs RX11 324 mX11_lowest 1 := ⟨mk_X11_lowest, ws_of (List.mem_of_getElem? (i := 1495) (by decide +kernel)) (by decide +kernel), ws_of (List.mem_of_getElem? (i := 1496) (by decide +kernel)) (by decide +kernel)⟩
theorem lk_RX11_327 : LKv RX11 327 mX11_numberOf 1 9 := ⟨mk_X11_numberOf, ws_of (List.mem_of_getElem? (i := 1491) (by decide +kernel)) (by decide +kernel), ws_of (List.mem_of_getElem? (i := 1493) (by decide +kernel)) (by decide +kernel), ws_of (List.mem_of_getElem? (i := 73) (by decide +kernel)) (by decide +kernel), _, _, rfl⟩
theorem lk_RX11_330 : LKv RX11 330 mX11_systems 1 9 := ⟨mk_X11_systems, ws_of (List.mem_of_getElem? (i := 1463) (by decide +kernel)) (by decide +kernel), ws_of (List.mem_of_getElem? (i := 1465) (by decide +kernel)) (by decide +kernel), ws_of (List.mem_of_getElem? (i := 66) (by decide +kernel)) (by decide +kernel), _, _, rfl⟩
theorem lk_RX11_333 : LKv RX11 333 mX11_quotient 1 9 := ⟨mk_X11_quotient, ws_of (List.mem_of_getElem? (i := 1487) (by decide +kernel)) (by decide +kernel), ws_of (List.mem_of_getElem? (i := 1489) (by decide +kernel)) (by decide +kernel), ws_of (List.mem_of_getElem? (i := 72) (by decide +kernel)) (by decide +kernel), _, _, rfl⟩
theorem lk_RX11_339 : LKv RX11 339 mX11_laysDigits 1 9 := ⟨mk_X11_laysDigits, ws_of (List.mem_of_getElem? (i := 1519) (by decide +kernel)) (by decide +kernel), ws_of (List.mem_of_getElem? (i := 1521) (by decide +kernel)) (by decide +kernel), ws_of (List.mem_of_getElem? (i := 76) (by decide +kernel)) (by decide +kernel), _, _, rfl⟩
theorem lk_RX11_345 : LKv RX11 345 mX11_figureOf 1 9 := ⟨mk_X11_figureOf, ws_of (List.mem_of_getElem? (i := 1515) (by decide +kernel)) (by decide +kernel), ws_of (List.mem_of_getElem? (i := 1517) (by decide +kernel)) (by decide +kernel), ws_of (List.mem_of_getElem? (i := 75) (by decide +kernel)) (by decide +kernel), _, _, rfl⟩
theorem lk_RX11_348 : LKv RX11 348 mX11_adds 2 9 := ⟨mk_X11_adds, ws_of (List.mem_of_getElem? (i := 1523) (by decide +kernel)) (by decide +kernel), ws_of (List.mem_of_getElem? (i := 1525) (by decide +kernel)) (by decide +kernel), ws_of (List.mem_of_getElem? (i := 77) (by decide +kernel)) (by decide +kernel), _, _, rfl⟩
theorem lk_RX11_352 : LKv RX11 352 mX11_valueAt 2 9 := ⟨mk_X11_valueAt, ws_of (List.mem_of_getElem? (i := 1511) (by decide +kernel)) (by decide +kernel), ws_of (List.mem_of_getElem? (i := 1513) (by decide +kernel)) (by decide +kernel), ws_of (List.mem_of_getElem? (i := 74) (by decide +kernel)) (by decide +kernel), _, _, rfl⟩
theorem lk_RX11_355 : LKv RX11 355 mX11_kindOfCode 1 9 := ⟨mk_X11_kindOfCode, ws_of (List.mem_of_getElem? (i := 1544) (by decide +kernel)) (by decide +kernel), ws_of (List.mem_of_getElem? (i := 1546) (by decide +kernel)) (by decide +kernel), ws_of (List.mem_of_getElem? (i := 81) (by decide +kernel)) (by decide +kernel), _, _, rfl⟩
theorem lk_RX11_358 : LKv RX11 358 mX11_areKinds 3 9 := ⟨mk_X11_areKinds, ws_of (List.mem_of_getElem? (i := 1531) (by decide +kernel)) (by decide +kernel), ws_of (List.mem_of_getElem? (i := 1533) (by decide +kernel)) (by decide +kernel), ws_of (List.mem_of_getElem? (i := 78) (by decide +kernel)) (by decide +kernel), _, _, rfl⟩
theorem lk_RX11_363 : LKv RX11 363 mX11_byCharacters 3 9 := ⟨mk_X11_byCharacters, ws_of (List.mem_of_getElem? (i := 1536) (by decide +kernel)) (by decide +kernel), ws_of (List.mem_of_getElem? (i := 1538) (by decide +kernel)) (by decide +kernel), ws_of (List.mem_of_getElem? (i := 79) (by decide +kernel)) (by decide +kernel), _, _, rfl⟩
theorem lk_RX11_367 : LKv RX11 367 mX11_bySearch 4 9 := ⟨mk_X11_bySearch, ws_of (List.mem_of_getElem? (i := 1540) (by decide +kernel)) (by decide +kernel), ws_of (List.mem_of_getElem? (i := 1542) (by decide +kernel)) (by decide +kernel), ws_of (List.mem_of_getElem? (i := 80) (by decide +kernel)) (by decide +kernel), _, _, rfl⟩
theorem lk_RX11_374 : LKv RX11 374 mX11_laysClasses 3 9 := ⟨mk_X11_laysClasses, ws_of (List.mem_of_getElem? (i := 1552) (by decide +kernel)) (by decide +kernel), ws_of (List.mem_of_getElem? (i := 1554) (by decide +kernel)) (by decide +kernel), ws_of (List.mem_of_getElem? (i := 82) (by decide +kernel)) (by decide +kernel), _, _, rfl⟩
theorem lk_RX11_377 : LKv RX11 377 mX11_symmetric 2 9 := ⟨mk_X11_symmetric, ws_of (List.mem_of_getElem? (i := 1556) (by decide +kernel)) (by decide +kernel), ws_of (List.mem_of_getElem? (i := 1558) (by decide +kernel)) (by decide +kernel), ws_of (List.mem_of_getElem? (i := 83) (by decide +kernel)) (by decide +kernel), _, _, rfl⟩
theorem lk_RX11_382 : LKs RX11 382 mX11_common 2 := ⟨mk_X11_common, ws_of (List.mem_of_getElem? (i := 1565) (by decide +kernel)) (by decide +kernel), ws_of (List.mem_of_getElem? (i := 1566) (by decide +kernel)) (by decide +kernel)⟩
theorem lk_RX11_386 : LKv RX11 386 mX11_autsOf 2 9 := ⟨mk_X11_autsOf, ws_of (List.mem_of_getElem? (i := 1596) (by decide +kernel)) (by decide +kernel), ws_of (List.mem_of_getElem? (i := 1598) (by decide +kernel)) (by decide +kernel), ws_of (List.mem_of_getElem? (i := 87) (by decide +kernel)) (by decide +kernel), _, _, rfl⟩
theorem lk_RX11_389 : LKv RX11 389 mX11_genusOf 2 9 := ⟨mk_X11_genusOf, ws_of (List.mem_of_getElem? (i := 1572) (by decide +kernel)) (by decide +kernel), ws_of (List.mem_of_getElem? (i := 1574) (by decide +kernel)) (by decide +kernel), ws_of (List.mem_of_getElem? (i := 84) (by decide +kernel)) (by decide +kernel), _, _, rfl⟩
theorem lk_RX11_395 : LKv RX11 395 mX11_joins 2 9 := ⟨mk_X11_joins, ws_of (List.mem_of_getElem? (i := 1584) (by decide +kernel)) (by decide +kernel), ws_of (List.mem_of_getElem? (i := 1586) (by decide +kernel)) (by decide +kernel), ws_of (List.mem_of_getElem? (i := 85) (by decide +kernel)) (by decide +kernel), _, _, rfl⟩
theorem lk_RX11_398 : LKv RX11 398 mX11_parts 0 9 := ⟨mk_X11_parts, ws_of (List.mem_of_getElem? (i := 1592) (by decide +kernel)) (by decide +kernel), ws_of (List.mem_of_getElem? (i := 1594) (by decide +kernel)) (by decide +kernel), ws_of (List.mem_of_getElem? (i := 86) (by decide +kernel)) (by decide +kernel), _, _, rfl⟩
theorem lk_RX11_401 : LKv RX11 401 mX11_siblings 0 9 := ⟨mk_X11_siblings, ws_of (List.mem_of_getElem? (i := 1600) (by decide +kernel)) (by decide +kernel), ws_of (List.mem_of_getElem? (i := 1602) (by decide +kernel)) (by decide +kernel), ws_of (List.mem_of_getElem? (i := 88) (by decide +kernel)) (by decide +kernel), _, _, rfl⟩
theorem lk_RX11_410 : LKv RX11 410 mX11_letterOf 1 9 := ⟨mk_X11_letterOf, ws_of (List.mem_of_getElem? (i := 1612) (by decide +kernel)) (by decide +kernel), ws_of (List.mem_of_getElem? (i := 1614) (by decide +kernel)) (by decide +kernel), ws_of (List.mem_of_getElem? (i := 90) (by decide +kernel)) (by decide +kernel), _, _, rfl⟩
theorem lk_RX11_413 : LKv RX11 413 mX11_readsWord 1 9 := ⟨mk_X11_readsWord, ws_of (List.mem_of_getElem? (i := 1608) (by decide +kernel)) (by decide +kernel), ws_of (List.mem_of_getElem? (i := 1610) (by decide +kernel)) (by decide +kernel), ws_of (List.mem_of_getElem? (i := 89) (by decide +kernel)) (by decide +kernel), _, _, rfl⟩
theorem lk_RX11_416 : LKv RX11 416 mX11_powerOf 2 9 := ⟨mk_X11_powerOf, ws_of (List.mem_of_getElem? (i := 1624) (by decide +kernel)) (by decide +kernel), ws_of (List.mem_of_getElem? (i := 1626) (by decide +kernel)) (by decide +kernel), ws_of (List.mem_of_getElem? (i := 91) (by decide +kernel)) (by decide +kernel), _, _, rfl⟩
theorem lk_RX11_419 : LKv RX11 419 mX11_steps 3 9 := ⟨mk_X11_steps, ws_of (List.mem_of_getElem? (i := 1640) (by decide +kernel)) (by decide +kernel), ws_of (List.mem_of_getElem? (i := 1642) (by decide +kernel)) (by decide +kernel), ws_of (List.mem_of_getElem? (i := 92) (by decide +kernel)) (by decide +kernel), _, _, rfl⟩
theorem lk_RX11_422 : LKv RX11 422 mX11_cycleSet 2 9 := ⟨mk_X11_cycleSet, ws_of (List.mem_of_getElem? (i := 1648) (by decide +kernel)) (by decide +kernel), ws_of (List.mem_of_getElem? (i := 1650) (by decide +kernel)) (by decide +kernel), ws_of (List.mem_of_getElem? (i := 93) (by decide +kernel)) (by decide +kernel), _, _, rfl⟩
theorem lk_RX2_20 : LKv RX2 20 mX2_sift 2 2 := ⟨mk_X2_sift, ws_of (List.mem_of_getElem? (i := 633) (by decide +kernel)) (by decide +kernel), ws_of (List.mem_of_getElem? (i := 635) (by decide +kernel)) (by decide +kernel), ws_of (List.mem_of_getElem? (i := 11) (by decide +kernel)) (by decide +kernel), _, _, rfl⟩
theorem lk_RX2_24 : LKs RX2 24 mX2_most 3 := ⟨mk_X2_most, ws_of (List.mem_of_getElem? (i := 640) (by decide +kernel)) (by decide +kernel), ws_of (List.mem_of_getElem? (i := 641) (by decide +kernel)) (by decide +kernel)⟩
theorem lk_RX2_28 : LKs RX2 28 mX6_then 2 := ⟨mk_X6_then, ws_of (List.mem_of_getElem? (i := 639) (by decide +kernel)) (by decide +kernel), ws_of (List.mem_of_getElem? (i := 432) (by decide +kernel)) (by decide +kernel)⟩
theorem lk_RX2_34 : LKv RX2 34 mX2_found 1 2 := ⟨mk_X2_found, ws_of (List.mem_of_getElem? (i := 645) (by decide +kernel)) (by decide +kernel), ws_of (List.mem_of_getElem? (i := 647) (by decide +kernel)) (by decide +kernel), ws_of (List.mem_of_getElem? (i := 12) (by decide +kernel)) (by decide +kernel), _, _, rfl⟩
theorem lk_RX2_38 : LKs RX2 38 mX6_darts 1 := ⟨mk_X6_darts, ws_of (List.mem_of_getElem? (i := 643) (by decide +kernel)) (by decide +kernel), ws_of (List.mem_of_getElem? (i := 520) (by decide +kernel)) (by decide +kernel)⟩
theorem lk_RX2_41 : LKs RX2 41 mX6_rings 2 := ⟨mk_X6_rings, ws_of (List.mem_of_getElem? (i := 644) (by decide +kernel)) (by decide +kernel), ws_of (List.mem_of_getElem? (i := 580) (by decide +kernel)) (by decide +kernel)⟩
theorem lk_RX2_44 : LKs RX2 44 mX6_at 2 := ⟨mk_X6_at, ws_of (List.mem_of_getElem? (i := 637) (by decide +kernel)) (by decide +kernel), ws_of (List.mem_of_getElem? (i := 435) (by decide +kernel)) (by decide +kernel)⟩
theorem lk_RX2_47 : LKs RX2 47 mX6_back 1 := ⟨mk_X6_back, ws_of (List.mem_of_getElem? (i := 638) (by decide +kernel)) (by decide +kernel), ws_of (List.mem_of_getElem? (i := 438) (by decide +kernel)) (by decide +kernel)⟩
theorem lk_RX3_22 : LKv RX3 22 mX8_settle 3 6 := ⟨mk_X8_settle, ws_of (List.mem_of_getElem? (i := 931) (by decide +kernel)) (by decide +kernel), ws_of (List.mem_of_getElem? (i := 513) (by decide +kernel)) (by decide +kernel), ws_of (List.mem_of_getElem? (i := 514) (by decide +kernel)) (by decide +kernel), _, _, rfl⟩
theorem lk_RX3_34 : LKv RX3 34 mX3_add 2 3 := ⟨mk_X3_add, ws_of (List.mem_of_getElem? (i := 932) (by decide +kernel)) (by decide +kernel), ws_of (List.mem_of_getElem? (i := 934) (by decide +kernel)) (by decide +kernel), ws_of (List.mem_of_getElem? (i := 24) (by decide +kernel)) (by decide +kernel), _, _, rfl⟩
theorem lk_RX3_38 : LKs RX3 38 mX6_black 3 := ⟨mk_X6_black, ws_of (List.mem_of_getElem? (i := 936) (by decide +kernel)) (by decide +kernel), ws_of (List.mem_of_getElem? (i := 502) (by decide +kernel)) (by decide +kernel)⟩
theorem lk_RX3_44 : LKs RX3 44 mX6_white 3 := ⟨mk_X6_white, ws_of (List.mem_of_getElem? (i := 937) (by decide +kernel)) (by decide +kernel), ws_of (List.mem_of_getElem? (i := 506) (by decide +kernel)) (by decide +kernel)⟩
theorem lk_RX3_47 : LKv RX3 47 mX3_sort 0 3 := ⟨mk_X3_sort, ws_of (List.mem_of_getElem? (i := 938) (by decide +kernel)) (by decide +kernel), ws_of (List.mem_of_getElem? (i := 940) (by decide +kernel)) (by decide +kernel), ws_of (List.mem_of_getElem? (i := 25) (by decide +kernel)) (by decide +kernel), _, _, rfl⟩
theorem lk_RX3_50 : LKv RX3 50 mX3_behind 2 3 := ⟨mk_X3_behind, ws_of (List.mem_of_getElem? (i := 942) (by decide +kernel)) (by decide +kernel), ws_of (List.mem_of_getElem? (i := 944) (by decide +kernel)) (by decide +kernel), ws_of (List.mem_of_getElem? (i := 26) (by decide +kernel)) (by decide +kernel), _, _, rfl⟩
theorem lk_RX4_34 : LKv RX4 34 mX4_add 2 4 := ⟨mk_X4_add, ws_of (List.mem_of_getElem? (i := 789) (by decide +kernel)) (by decide +kernel), ws_of (List.mem_of_getElem? (i := 791) (by decide +kernel)) (by decide +kernel), ws_of (List.mem_of_getElem? (i := 20) (by decide +kernel)) (by decide +kernel), _, _, rfl⟩
theorem lk_RX4_38 : LKs RX4 38 mX6_back 1 := ⟨mk_X6_back, ws_of (List.mem_of_getElem? (i := 794) (by decide +kernel)) (by decide +kernel), ws_of (List.mem_of_getElem? (i := 438) (by decide +kernel)) (by decide +kernel)⟩
theorem lk_RX4_42 : LKv RX4 42 mX4_turnsTo 1 4 := ⟨mk_X4_turnsTo, ws_of (List.mem_of_getElem? (i := 795) (by decide +kernel)) (by decide +kernel), ws_of (List.mem_of_getElem? (i := 796) (by decide +kernel)) (by decide +kernel), ws_of (List.mem_of_getElem? (i := 797) (by decide +kernel)) (by decide +kernel), _, _, rfl⟩
theorem lk_RX4_45 : LKs RX4 45 mX6_then 2 := ⟨mk_X6_then, ws_of (List.mem_of_getElem? (i := 799) (by decide +kernel)) (by decide +kernel), ws_of (List.mem_of_getElem? (i := 432) (by decide +kernel)) (by decide +kernel)⟩
theorem lk_RX4_49 : LKs RX4 49 mX6_rank 2 := ⟨mk_X6_rank, ws_of (List.mem_of_getElem? (i := 793) (by decide +kernel)) (by decide +kernel), ws_of (List.mem_of_getElem? (i := 724) (by decide +kernel)) (by decide +kernel)⟩
theorem lk_RX4_52 : LKs RX4 52 mX6_kind 2 := ⟨mk_X6_kind, ws_of (List.mem_of_getElem? (i := 804) (by decide +kernel)) (by decide +kernel), ws_of (List.mem_of_getElem? (i := 517) (by decide +kernel)) (by decide +kernel)⟩
theorem lk_RX4_55 : LKs RX4 55 mX6_order 2 := ⟨mk_X6_order, ws_of (List.mem_of_getElem? (i := 820) (by decide +kernel)) (by decide +kernel), ws_of (List.mem_of_getElem? (i := 586) (by decide +kernel)) (by decide +kernel)⟩
theorem lk_RX4_58 : LKs RX4 58 mX6_swap 2 := ⟨mk_X6_swap, ws_of (List.mem_of_getElem? (i := 813) (by decide +kernel)) (by decide +kernel), ws_of (List.mem_of_getElem? (i := 814) (by decide +kernel)) (by decide +kernel)⟩
theorem lk_RX5_15 : LKs RX5 15 mX5_many 1 := ⟨mk_X5_many, ws_of (List.mem_of_getElem? (i := 774) (by decide +kernel)) (by decide +kernel), ws_of (List.mem_of_getElem? (i := 775) (by decide +kernel)) (by decide +kernel)⟩
theorem lk_RX5_22 : LKs RX5 22 mX5_nth 2 := ⟨mk_X5_nth, ws_of (List.mem_of_getElem? (i := 779) (by decide +kernel)) (by decide +kernel), ws_of (List.mem_of_getElem? (i := 780) (by decide +kernel)) (by decide +kernel)⟩
theorem lk_RX5_29 : LKs RX5 29 mX5_factorial 1 := ⟨mk_X5_factorial, ws_of (List.mem_of_getElem? (i := 852) (by decide +kernel)) (by decide +kernel), ws_of (List.mem_of_getElem? (i := 699) (by decide +kernel)) (by decide +kernel)⟩
theorem lk_RX5_32 : LKs RX5 32 mX5_strips 3 := ⟨mk_X5_strips, ws_of (List.mem_of_getElem? (i := 860) (by decide +kernel)) (by decide +kernel), ws_of (List.mem_of_getElem? (i := 861) (by decide +kernel)) (by decide +kernel)⟩
theorem lk_RX5_36 : LKs RX5 36 mJ6_bitCount_0f7a4 1 := ⟨mk_J6_bitCount_0f7a4, ws_of (List.mem_of_getElem? (i := 863) (by decide +kernel)) (by decide +kernel), ws_of (List.mem_of_getElem? (i := 526) (by decide +kernel)) (by decide +kernel)⟩
theorem lk_RX5_41 : LKs RX5 41 mX5_value 2 := ⟨mk_X5_value, ws_of (List.mem_of_getElem? (i := 894) (by decide +kernel)) (by decide +kernel), ws_of (List.mem_of_getElem? (i := 858) (by decide +kernel)) (by decide +kernel)⟩
theorem lk_RX5_44 : LKs RX5 44 mX5_members 2 := ⟨mk_X5_members, ws_of (List.mem_of_getElem? (i := 895) (by decide +kernel)) (by decide +kernel), ws_of (List.mem_of_getElem? (i := 850) (by decide +kernel)) (by decide +kernel)⟩
theorem lk_RX6_9 : LKs RX6 9 mJ6_bitCount_0f7a4 1 := ⟨mk_J6_bitCount_0f7a4, ws_of (List.mem_of_getElem? (i := 525) (by decide +kernel)) (by decide +kernel), ws_of (List.mem_of_getElem? (i := 526) (by decide +kernel)) (by decide +kernel)⟩
theorem lk_RX6_18 : LKs RX6 18 mX6_shift 1 := ⟨mk_X6_shift, ws_of (List.mem_of_getElem? (i := 415) (by decide +kernel)) (by decide +kernel), ws_of (List.mem_of_getElem? (i := 416) (by decide +kernel)) (by decide +kernel)⟩
theorem lk_RX6_21 : LKs RX6 21 mX6_at 2 := ⟨mk_X6_at, ws_of (List.mem_of_getElem? (i := 434) (by decide +kernel)) (by decide +kernel), ws_of (List.mem_of_getElem? (i := 435) (by decide +kernel)) (by decide +kernel)⟩
theorem lk_RX6_25 : LKs RX6 25 mX6_then 2 := ⟨mk_X6_then, ws_of (List.mem_of_getElem? (i := 431) (by decide +kernel)) (by decide +kernel), ws_of (List.mem_of_getElem? (i := 432) (by decide +kernel)) (by decide +kernel)⟩
theorem lk_RX6_28 : LKs RX6 28 mX6_back 1 := ⟨mk_X6_back, ws_of (List.mem_of_getElem? (i := 437) (by decide +kernel)) (by decide +kernel), ws_of (List.mem_of_getElem? (i := 438) (by decide +kernel)) (by decide +kernel)⟩
theorem lk_RX6_31 : LKs RX6 31 mX6_tail 1 := ⟨mk_X6_tail, ws_of (List.mem_of_getElem? (i := 411) (by decide +kernel)) (by decide +kernel), ws_of (List.mem_of_getElem? (i := 412) (by decide +kernel)) (by decide +kernel)⟩
theorem lk_RX6_34 : LKs RX6 34 mX6_bit 1 := ⟨mk_X6_bit, ws_of (List.mem_of_getElem? (i := 418) (by decide +kernel)) (by decide +kernel), ws_of (List.mem_of_getElem? (i := 419) (by decide +kernel)) (by decide +kernel)⟩
theorem lk_RX6_37 : LKs RX6 37 mX6_darts 1 := ⟨mk_X6_darts, ws_of (List.mem_of_getElem? (i := 519) (by decide +kernel)) (by decide +kernel), ws_of (List.mem_of_getElem? (i := 520) (by decide +kernel)) (by decide +kernel)⟩
theorem lk_RX6_40 : LKs RX6 40 mX6_swapped 3 := ⟨mk_X6_swapped, ws_of (List.mem_of_getElem? (i := 708) (by decide +kernel)) (by decide +kernel), ws_of (List.mem_of_getElem? (i := 495) (by decide +kernel)) (by decide +kernel)⟩
theorem lk_RX6_44 : LKs RX6 44 mX6_ring 2 := ⟨mk_X6_ring, ws_of (List.mem_of_getElem? (i := 531) (by decide +kernel)) (by decide +kernel), ws_of (List.mem_of_getElem? (i := 532) (by decide +kernel)) (by decide +kernel)⟩
theorem lk_RX6_47 : LKs RX6 47 mX6_lowest 1 := ⟨mk_X6_lowest, ws_of (List.mem_of_getElem? (i := 522) (by decide +kernel)) (by decide +kernel), ws_of (List.mem_of_getElem? (i := 523) (by decide +kernel)) (by decide +kernel)⟩
theorem lk_RX6_50 : LKs RX6 50 mX6_leastOfRing 2 := ⟨mk_X6_leastOfRing, ws_of (List.mem_of_getElem? (i := 751) (by decide +kernel)) (by decide +kernel), ws_of (List.mem_of_getElem? (i := 752) (by decide +kernel)) (by decide +kernel)⟩
theorem lk_RX6_54 : LKs RX6 54 mX6_multiple 2 := ⟨mk_X6_multiple, ws_of (List.mem_of_getElem? (i := 588) (by decide +kernel)) (by decide +kernel), ws_of (List.mem_of_getElem? (i := 589) (by decide +kernel)) (by decide +kernel)⟩
theorem lk_RX6_57 : LKs RX6 57 mX6_step 3 := ⟨mk_X6_step, ws_of (List.mem_of_getElem? (i := 604) (by decide +kernel)) (by decide +kernel), ws_of (List.mem_of_getElem? (i := 605) (by decide +kernel)) (by decide +kernel)⟩
theorem lk_RX6_60 : LKs RX6 60 mX6_faces 2 := ⟨mk_X6_faces, ws_of (List.mem_of_getElem? (i := 504) (by decide +kernel)) (by decide +kernel), ws_of (List.mem_of_getElem? (i := 429) (by decide +kernel)) (by decide +kernel)⟩
theorem lk_RX6_63 : LKs RX6 63 mX6_reach 3 := ⟨mk_X6_reach, ws_of (List.mem_of_getElem? (i := 615) (by decide +kernel)) (by decide +kernel), ws_of (List.mem_of_getElem? (i := 616) (by decide +kernel)) (by decide +kernel)⟩
theorem lk_RX6_66 : LKs RX6 66 mX6_rings 2 := ⟨mk_X6_rings, ws_of (List.mem_of_getElem? (i := 628) (by decide +kernel)) (by decide +kernel), ws_of (List.mem_of_getElem? (i := 580) (by decide +kernel)) (by decide +kernel)⟩
theorem lk_RX7_30 : LKv RX7 30 mX7_step 2 5 := ⟨mk_X7_step, ws_of (List.mem_of_getElem? (i := 463) (by decide +kernel)) (by decide +kernel), ws_of (List.mem_of_getElem? (i := 465) (by decide +kernel)) (by decide +kernel), ws_of (List.mem_of_getElem? (i := 4) (by decide +kernel)) (by decide +kernel), _, _, rfl⟩
theorem lk_RX7_34 : LKv RX7 34 mX7_close 0 5 := ⟨mk_X7_close, ws_of (List.mem_of_getElem? (i := 467) (by decide +kernel)) (by decide +kernel), ws_of (List.mem_of_getElem? (i := 469) (by decide +kernel)) (by decide +kernel), ws_of (List.mem_of_getElem? (i := 5) (by decide +kernel)) (by decide +kernel), _, _, rfl⟩
theorem lk_RX7_38 : LKv RX7 38 mX7_number 1 5 := ⟨mk_X7_number, ws_of (List.mem_of_getElem? (i := 472) (by decide +kernel)) (by decide +kernel), ws_of (List.mem_of_getElem? (i := 474) (by decide +kernel)) (by decide +kernel), ws_of (List.mem_of_getElem? (i := 6) (by decide +kernel)) (by decide +kernel), _, _, rfl⟩
theorem lk_RX7_42 : LKs RX7 42 mX6_shift 1 := ⟨mk_X6_shift, ws_of (List.mem_of_getElem? (i := 471) (by decide +kernel)) (by decide +kernel), ws_of (List.mem_of_getElem? (i := 416) (by decide +kernel)) (by decide +kernel)⟩
theorem lk_RX7_47 : LKs RX7 47 mX6_bit 1 := ⟨mk_X6_bit, ws_of (List.mem_of_getElem? (i := 476) (by decide +kernel)) (by decide +kernel), ws_of (List.mem_of_getElem? (i := 419) (by decide +kernel)) (by decide +kernel)⟩
theorem lk_RX8_34 : LKs RX8 34 mX6_ring 2 := ⟨mk_X6_ring, ws_of (List.mem_of_getElem? (i := 541) (by decide +kernel)) (by decide +kernel), ws_of (List.mem_of_getElem? (i := 532) (by decide +kernel)) (by decide +kernel)⟩
theorem lk_RX8_40 : LKs RX8 40 mX6_tail 1 := ⟨mk_X6_tail, ws_of (List.mem_of_getElem? (i := 542) (by decide +kernel)) (by decide +kernel), ws_of (List.mem_of_getElem? (i := 412) (by decide +kernel)) (by decide +kernel)⟩
theorem lk_RX8_44 : LKs RX8 44 mX6_darts 1 := ⟨mk_X6_darts, ws_of (List.mem_of_getElem? (i := 543) (by decide +kernel)) (by decide +kernel), ws_of (List.mem_of_getElem? (i := 520) (by decide +kernel)) (by decide +kernel)⟩
theorem lk_RX8_47 : LKs RX8 47 mX8_grow 5 := ⟨mk_X8_grow, ws_of (List.mem_of_getElem? (i := 544) (by decide +kernel)) (by decide +kernel), ws_of (List.mem_of_getElem? (i := 545) (by decide +kernel)) (by decide +kernel)⟩
theorem lk_RX8_52 : LKs RX8 52 mX6_lowest 1 := ⟨mk_X6_lowest, ws_of (List.mem_of_getElem? (i := 547) (by decide +kernel)) (by decide +kernel), ws_of (List.mem_of_getElem? (i := 523) (by decide +kernel)) (by decide +kernel)⟩
theorem lk_RX8_55 : LKs RX8 55 mJ6_bitCount_0f7a4 1 := ⟨mk_J6_bitCount_0f7a4, ws_of (List.mem_of_getElem? (i := 548) (by decide +kernel)) (by decide +kernel), ws_of (List.mem_of_getElem? (i := 526) (by decide +kernel)) (by decide +kernel)⟩
theorem lk_RX8_60 : LKs RX8 60 mX6_bit 1 := ⟨mk_X6_bit, ws_of (List.mem_of_getElem? (i := 549) (by decide +kernel)) (by decide +kernel), ws_of (List.mem_of_getElem? (i := 419) (by decide +kernel)) (by decide +kernel)⟩
theorem lk_RX8_63 : LKv RX8 63 mX8_laid 3 6 := ⟨mk_X8_laid, ws_of (List.mem_of_getElem? (i := 550) (by decide +kernel)) (by decide +kernel), ws_of (List.mem_of_getElem? (i := 552) (by decide +kernel)) (by decide +kernel), ws_of (List.mem_of_getElem? (i := 8) (by decide +kernel)) (by decide +kernel), _, _, rfl⟩
theorem lk_RX8_67 : LKs RX8 67 mX6_shift 1 := ⟨mk_X6_shift, ws_of (List.mem_of_getElem? (i := 554) (by decide +kernel)) (by decide +kernel), ws_of (List.mem_of_getElem? (i := 416) (by decide +kernel)) (by decide +kernel)⟩
theorem lk_RX8_70 : LKs RX8 70 mX6_at 2 := ⟨mk_X6_at, ws_of (List.mem_of_getElem? (i := 555) (by decide +kernel)) (by decide +kernel), ws_of (List.mem_of_getElem? (i := 435) (by decide +kernel)) (by decide +kernel)⟩
theorem lk_RX8_73 : LKv RX8 73 mX8_gather 3 6 := ⟨mk_X8_gather, ws_of (List.mem_of_getElem? (i := 537) (by decide +kernel)) (by decide +kernel), ws_of (List.mem_of_getElem? (i := 538) (by decide +kernel)) (by decide +kernel), ws_of (List.mem_of_getElem? (i := 539) (by decide +kernel)) (by decide +kernel), _, _, rfl⟩
theorem lk_RX8_77 : LKv RX8 77 mX8_nth 1 6 := ⟨mk_X8_nth, ws_of (List.mem_of_getElem? (i := 557) (by decide +kernel)) (by decide +kernel), ws_of (List.mem_of_getElem? (i := 558) (by decide +kernel)) (by decide +kernel), ws_of (List.mem_of_getElem? (i := 559) (by decide +kernel)) (by decide +kernel), _, _, rfl⟩
theorem lk_RX8_80 : LKs RX8 80 mX6_relabelled 2 := ⟨mk_X6_relabelled, ws_of (List.mem_of_getElem? (i := 562) (by decide +kernel)) (by decide +kernel), ws_of (List.mem_of_getElem? (i := 563) (by decide +kernel)) (by decide +kernel)⟩
theorem lk_RX8_83 : LKs RX8 83 mX6_kind 2 := ⟨mk_X6_kind, ws_of (List.mem_of_getElem? (i := 516) (by decide +kernel)) (by decide +kernel), ws_of (List.mem_of_getElem? (i := 517) (by decide +kernel)) (by decide +kernel)⟩
theorem lk_RX8_86 : LKs RX8 86 mX6_least 2 := ⟨mk_X6_least, ws_of (List.mem_of_getElem? (i := 534) (by decide +kernel)) (by decide +kernel), ws_of (List.mem_of_getElem? (i := 535) (by decide +kernel)) (by decide +kernel)⟩
theorem lk_RX8_99 : LKs RX8 99 mX6_black 3 := ⟨mk_X6_black, ws_of (List.mem_of_getElem? (i := 680) (by decide +kernel)) (by decide +kernel), ws_of (List.mem_of_getElem? (i := 502) (by decide +kernel)) (by decide +kernel)⟩
theorem lk_RX8_102 : LKs RX8 102 mX6_white 3 := ⟨mk_X6_white, ws_of (List.mem_of_getElem? (i := 681) (by decide +kernel)) (by decide +kernel), ws_of (List.mem_of_getElem? (i := 506) (by decide +kernel)) (by decide +kernel)⟩
theorem lk_RX8_105 : LKv RX8 105 mX8_first 5 6 := ⟨mk_X8_first, ws_of (List.mem_of_getElem? (i := 682) (by decide +kernel)) (by decide +kernel), ws_of (List.mem_of_getElem? (i := 683) (by decide +kernel)) (by decide +kernel), ws_of (List.mem_of_getElem? (i := 684) (by decide +kernel)) (by decide +kernel), _, _, rfl⟩
theorem fk_RX0_9 : FLk RX0 9 0 0 := ⟨_, _, _, ck_0, by decide, ws_of (List.mem_of_getElem? (i := 244) (by decide +kernel)) (by decide +kernel)⟩
theorem fk_RX0_32 : FLk RX0 32 0 1 := ⟨_, _, _, ck_0, by decide, ws_of (List.mem_of_getElem? (i := 245) (by decide +kernel)) (by decide +kernel)⟩
theorem fk_RX1_9 : FLk RX1 9 1 0 := ⟨_, _, _, ck_1, by decide, ws_of (List.mem_of_getElem? (i := 257) (by decide +kernel)) (by decide +kernel)⟩
theorem fk_RX1_15 : FLk RX1 15 1 1 := ⟨_, _, _, ck_1, by decide, ws_of (List.mem_of_getElem? (i := 258) (by decide +kernel)) (by decide +kernel)⟩
theorem fk_RX1_20 : FLk RX1 20 1 4 := ⟨_, _, _, ck_1, by decide, ws_of (List.mem_of_getElem? (i := 261) (by decide +kernel)) (by decide +kernel)⟩
theorem fk_RX1_23 : FLk RX1 23 1 5 := ⟨_, _, _, ck_1, by decide, ws_of (List.mem_of_getElem? (i := 262) (by decide +kernel)) (by decide +kernel)⟩
theorem fk_RX1_26 : FLk RX1 26 1 8 := ⟨_, _, _, ck_1, by decide, ws_of (List.mem_of_getElem? (i := 265) (by decide +kernel)) (by decide +kernel)⟩
theorem fk_RX1_30 : FLk RX1 30 1 9 := ⟨_, _, _, ck_1, by decide, ws_of (List.mem_of_getElem? (i := 266) (by decide +kernel)) (by decide +kernel)⟩
theorem fk_RX1_33 : FLk RX1 33 1 10 := ⟨_, _, _, ck_1, by decide, ws_of (List.mem_of_getElem? (i := 267) (by decide +kernel)) (by decide +kernel)⟩
theorem fk_RX1_36 : FLk RX1 36 1 2 := ⟨_, _, _, ck_1, by decide, ws_of (List.mem_of_getElem? (i := 259) (by decide +kernel)) (by decide +kernel)⟩
theorem fk_RX1_44 : FLk RX1 44 1 3 := ⟨_, _, _, ck_1, by decide, ws_of (List.mem_of_getElem? (i := 260) (by decide +kernel)) (by decide +kernel)⟩
theorem fk_RX1_47 : FLk RX1 47 1 6 := ⟨_, _, _, ck_1, by decide, ws_of (List.mem_of_getElem? (i := 263) (by decide +kernel)) (by decide +kernel)⟩
theorem fk_RX1_50 : FLk RX1 50 1 11 := ⟨_, _, _, ck_1, by decide, ws_of (List.mem_of_getElem? (i := 268) (by decide +kernel)) (by decide +kernel)⟩
theorem fk_RX1_67 : FLk RX1 67 1 7 := ⟨_, _, _, ck_1, by decide, ws_of (List.mem_of_getElem? (i := 264) (by decide +kernel)) (by decide +kernel)⟩
theorem fk_RX1_87 : FLk RX1 87 1 12 := ⟨_, _, _, ck_1, by decide, ws_of (List.mem_of_getElem? (i := 269) (by decide +kernel)) (by decide +kernel)⟩
theorem fk_RX1_90 : FLk RX1 90 1 13 := ⟨_, _, _, ck_1, by decide, ws_of (List.mem_of_getElem? (i := 270) (by decide +kernel)) (by decide +kernel)⟩
theorem fk_RX1_93 : FLk RX1 93 1 14 := ⟨_, _, _, ck_1, by decide, ws_of (List.mem_of_getElem? (i := 271) (by decide +kernel)) (by decide +kernel)⟩
theorem fk_RX1_96 : FLk RX1 96 1 15 := ⟨_, _, _, ck_1, by decide, ws_of (List.mem_of_getElem? (i := 273) (by decide +kernel)) (by decide +kernel)⟩
theorem fk_RX1_113 : FLk RX1 113 6 6 := ⟨_, _, _, ck_6, by decide, ws_of (List.mem_of_getElem? (i := 167) (by decide +kernel)) (by decide +kernel)⟩
theorem fk_RX10_9 : FLk RX10 9 8 0 := ⟨_, _, _, ck_8, by decide, ws_of (List.mem_of_getElem? (i := 351) (by decide +kernel)) (by decide +kernel)⟩
theorem fk_RX10_16 : FLk RX10 16 8 3 := ⟨_, _, _, ck_8, by decide, ws_of (List.mem_of_getElem? (i := 354) (by decide +kernel)) (by decide +kernel)⟩
theorem fk_RX10_20 : FLk RX10 20 8 4 := ⟨_, _, _, ck_8, by decide, ws_of (List.mem_of_getElem? (i := 355) (by decide +kernel)) (by decide +kernel)⟩
theorem fk_RX10_27 : FLk RX10 27 8 6 := ⟨_, _, _, ck_8, by decide, ws_of (List.mem_of_getElem? (i := 357) (by decide +kernel)) (by decide +kernel)⟩
theorem fk_RX10_34 : FLk RX10 34 8 7 := ⟨_, _, _, ck_8, by decide, ws_of (List.mem_of_getElem? (i := 358) (by decide +kernel)) (by decide +kernel)⟩
theorem fk_RX10_41 : FLk RX10 41 8 8 := ⟨_, _, _, ck_8, by decide, ws_of (List.mem_of_getElem? (i := 359) (by decide +kernel)) (by decide +kernel)⟩
theorem fk_RX10_48 : FLk RX10 48 8 9 := ⟨_, _, _, ck_8, by decide, ws_of (List.mem_of_getElem? (i := 360) (by decide +kernel)) (by decide +kernel)⟩
theorem fk_RX10_55 : FLk RX10 55 8 10 := ⟨_, _, _, ck_8, by decide, ws_of (List.mem_of_getElem? (i := 361) (by decide +kernel)) (by decide +kernel)⟩
theorem fk_RX10_62 : FLk RX10 62 8 11 := ⟨_, _, _, ck_8, by decide, ws_of (List.mem_of_getElem? (i := 362) (by decide +kernel)) (by decide +kernel)⟩
theorem fk_RX10_69 : FLk RX10 69 8 12 := ⟨_, _, _, ck_8, by decide, ws_of (List.mem_of_getElem? (i := 363) (by decide +kernel)) (by decide +kernel)⟩
theorem fk_RX10_73 : FLk RX10 73 8 1 := ⟨_, _, _, ck_8, by decide, ws_of (List.mem_of_getElem? (i := 352) (by decide +kernel)) (by decide +kernel)⟩
theorem fk_RX10_81 : FLk RX10 81 7 0 := ⟨_, _, _, ck_7, by decide, ws_of (List.mem_of_getElem? (i := 124) (by decide +kernel)) (by decide +kernel)⟩
theorem fk_RX10_87 : FLk RX10 87 7 1 := ⟨_, _, _, ck_7, by decide, ws_of (List.mem_of_getElem? (i := 126) (by decide +kernel)) (by decide +kernel)⟩
theorem fk_RX10_90 : FLk RX10 90 7 2 := ⟨_, _, _, ck_7, by decide, ws_of (List.mem_of_getElem? (i := 128) (by decide +kernel)) (by decide +kernel)⟩
theorem fk_RX10_130 : FLk RX10 130 8 2 := ⟨_, _, _, ck_8, by decide, ws_of (List.mem_of_getElem? (i := 353) (by decide +kernel)) (by decide +kernel)⟩
theorem fk_RX10_150 : FLk RX10 150 6 7 := ⟨_, _, _, ck_6, by decide, ws_of (List.mem_of_getElem? (i := 170) (by decide +kernel)) (by decide +kernel)⟩
theorem fk_RX10_153 : FLk RX10 153 6 8 := ⟨_, _, _, ck_6, by decide, ws_of (List.mem_of_getElem? (i := 173) (by decide +kernel)) (by decide +kernel)⟩
theorem fk_RX10_200 : FLk RX10 200 6 9 := ⟨_, _, _, ck_6, by decide, ws_of (List.mem_of_getElem? (i := 175) (by decide +kernel)) (by decide +kernel)⟩
theorem fk_RX10_214 : FLk RX10 214 7 3 := ⟨_, _, _, ck_7, by decide, ws_of (List.mem_of_getElem? (i := 130) (by decide +kernel)) (by decide +kernel)⟩
theorem fk_RX10_217 : FLk RX10 217 8 5 := ⟨_, _, _, ck_8, by decide, ws_of (List.mem_of_getElem? (i := 356) (by decide +kernel)) (by decide +kernel)⟩
theorem fk_RX10_228 : FLk RX10 228 1 14 := ⟨_, _, _, ck_1, by decide, ws_of (List.mem_of_getElem? (i := 272) (by decide +kernel)) (by decide +kernel)⟩
theorem fk_RX10_233 : FLk RX10 233 1 15 := ⟨_, _, _, ck_1, by decide, ws_of (List.mem_of_getElem? (i := 274) (by decide +kernel)) (by decide +kernel)⟩
theorem fk_RX10_332 : FLk RX10 332 3 2 := ⟨_, _, _, ck_3, by decide, ws_of (List.mem_of_getElem? (i := 318) (by decide +kernel)) (by decide +kernel)⟩
theorem fk_RX10_376 : FLk RX10 376 7 4 := ⟨_, _, _, ck_7, by decide, ws_of (List.mem_of_getElem? (i := 132) (by decide +kernel)) (by decide +kernel)⟩
theorem fk_RX10_378 : FLk RX10 378 7 5 := ⟨_, _, _, ck_7, by decide, ws_of (List.mem_of_getElem? (i := 134) (by decide +kernel)) (by decide +kernel)⟩
theorem fk_RX10_381 : FLk RX10 381 7 6 := ⟨_, _, _, ck_7, by decide, ws_of (List.mem_of_getElem? (i := 136) (by decide +kernel)) (by decide +kernel)⟩
theorem fk_RX11_7 : FLk RX11 7 9 5 := ⟨_, _, _, ck_9, by decide, ws_of (List.mem_of_getElem? (i := 1094) (by decide +kernel)) (by decide +kernel)⟩
theorem fk_RX11_13 : FLk RX11 13 9 6 := ⟨_, _, _, ck_9, by decide, ws_of (List.mem_of_getElem? (i := 1095) (by decide +kernel)) (by decide +kernel)⟩
theorem fk_RX11_16 : FLk RX11 16 9 7 := ⟨_, _, _, ck_9, by decide, ws_of (List.mem_of_getElem? (i := 1096) (by decide +kernel)) (by decide +kernel)⟩
theorem fk_RX11_19 : FLk RX11 19 9 8 := ⟨_, _, _, ck_9, by decide, ws_of (List.mem_of_getElem? (i := 1097) (by decide +kernel)) (by decide +kernel)⟩
theorem fk_RX11_22 : FLk RX11 22 9 9 := ⟨_, _, _, ck_9, by decide, ws_of (List.mem_of_getElem? (i := 1098) (by decide +kernel)) (by decide +kernel)⟩
theorem fk_RX11_25 : FLk RX11 25 9 10 := ⟨_, _, _, ck_9, by decide, ws_of (List.mem_of_getElem? (i := 1099) (by decide +kernel)) (by decide +kernel)⟩
theorem fk_RX11_28 : FLk RX11 28 9 11 := ⟨_, _, _, ck_9, by decide, ws_of (List.mem_of_getElem? (i := 1100) (by decide +kernel)) (by decide +kernel)⟩
theorem fk_RX11_31 : FLk RX11 31 9 12 := ⟨_, _, _, ck_9, by decide, ws_of (List.mem_of_getElem? (i := 1101) (by decide +kernel)) (by decide +kernel)⟩
theorem fk_RX11_34 : FLk RX11 34 9 13 := ⟨_, _, _, ck_9, by decide, ws_of (List.mem_of_getElem? (i := 1102) (by decide +kernel)) (by decide +kernel)⟩
theorem fk_RX11_37 : FLk RX11 37 9 14 := ⟨_, _, _, ck_9, by decide, ws_of (List.mem_of_getElem? (i := 1103) (by decide +kernel)) (by decide +kernel)⟩
theorem fk_RX11_40 : FLk RX11 40 9 15 := ⟨_, _, _, ck_9, by decide, ws_of (List.mem_of_getElem? (i := 1104) (by decide +kernel)) (by decide +kernel)⟩
theorem fk_RX11_44 : FLk RX11 44 9 20 := ⟨_, _, _, ck_9, by decide, ws_of (List.mem_of_getElem? (i := 1109) (by decide +kernel)) (by decide +kernel)⟩
theorem fk_RX11_47 : FLk RX11 47 9 26 := ⟨_, _, _, ck_9, by decide, ws_of (List.mem_of_getElem? (i := 1115) (by decide +kernel)) (by decide +kernel)⟩
theorem fk_RX11_50 : FLk RX11 50 9 27 := ⟨_, _, _, ck_9, by decide, ws_of (List.mem_of_getElem? (i := 1116) (by decide +kernel)) (by decide +kernel)⟩
theorem fk_RX11_53 : FLk RX11 53 9 28 := ⟨_, _, _, ck_9, by decide, ws_of (List.mem_of_getElem? (i := 1117) (by decide +kernel)) (by decide +kernel)⟩
theorem fk_RX11_56 : FLk RX11 56 9 29 := ⟨_, _, _, ck_9, by decide, ws_of (List.mem_of_getElem? (i := 1118) (by decide +kernel)) (by decide +kernel)⟩
theorem fk_RX11_59 : FLk RX11 59 9 30 := ⟨_, _, _, ck_9, by decide, ws_of (List.mem_of_getElem? (i := 1119) (by decide +kernel)) (by decide +kernel)⟩
theorem fk_RX11_62 : FLk RX11 62 9 32 := ⟨_, _, _, ck_9, by decide, ws_of (List.mem_of_getElem? (i := 1121) (by decide +kernel)) (by decide +kernel)⟩
theorem fk_RX11_65 : FLk RX11 65 9 36 := ⟨_, _, _, ck_9, by decide, ws_of (List.mem_of_getElem? (i := 1125) (by decide +kernel)) (by decide +kernel)⟩
theorem fk_RX11_68 : FLk RX11 68 9 38 := ⟨_, _, _, ck_9, by decide, ws_of (List.mem_of_getElem? (i := 1127) (by decide +kernel)) (by decide +kernel)⟩
theorem fk_RX11_71 : FLk RX11 71 9 39 := ⟨_, _, _, ck_9, by decide, ws_of (List.mem_of_getElem? (i := 1128) (by decide +kernel)) (by decide +kernel)⟩
theorem fk_RX11_74 : FLk RX11 74 9 40 := ⟨_, _, _, ck_9, by decide, ws_of (List.mem_of_getElem? (i := 1129) (by decide +kernel)) (by decide +kernel)⟩
theorem fk_RX11_77 : FLk RX11 77 9 41 := ⟨_, _, _, ck_9, by decide, ws_of (List.mem_of_getElem? (i := 1130) (by decide +kernel)) (by decide +kernel)⟩
theorem fk_RX11_80 : FLk RX11 80 9 43 := ⟨_, _, _, ck_9, by decide, ws_of (List.mem_of_getElem? (i := 1132) (by decide +kernel)) (by decide +kernel)⟩
theorem fk_RX11_83 : FLk RX11 83 9 44 := ⟨_, _, _, ck_9, by decide, ws_of (List.mem_of_getElem? (i := 1133) (by decide +kernel)) (by decide +kernel)⟩
theorem fk_RX11_86 : FLk RX11 86 9 45 := ⟨_, _, _, ck_9, by decide, ws_of (List.mem_of_getElem? (i := 1134) (by decide +kernel)) (by decide +kernel)⟩
theorem fk_RX11_89 : FLk RX11 89 9 47 := ⟨_, _, _, ck_9, by decide, ws_of (List.mem_of_getElem? (i := 1136) (by decide +kernel)) (by decide +kernel)⟩
theorem fk_RX11_93 : FLk RX11 93 9 48 := ⟨_, _, _, ck_9, by decide, ws_of (List.mem_of_getElem? (i := 1137) (by decide +kernel)) (by decide +kernel)⟩
theorem fk_RX11_96 : FLk RX11 96 9 49 := ⟨_, _, _, ck_9, by decide, ws_of (List.mem_of_getElem? (i := 1138) (by decide +kernel)) (by decide +kernel)⟩
theorem fk_RX11_99 : FLk RX11 99 9 51 := ⟨_, _, _, ck_9, by decide, ws_of (List.mem_of_getElem? (i := 1140) (by decide +kernel)) (by decide +kernel)⟩
theorem fk_RX11_102 : FLk RX11 102 9 54 := ⟨_, _, _, ck_9, by decide, ws_of (List.mem_of_getElem? (i := 1143) (by decide +kernel)) (by decide +kernel)⟩
theorem fk_RX11_105 : FLk RX11 105 9 55 := ⟨_, _, _, ck_9, by decide, ws_of (List.mem_of_getElem? (i := 1144) (by decide +kernel)) (by decide +kernel)⟩
theorem fk_RX11_108 : FLk RX11 108 9 56 := ⟨_, _, _, ck_9, by decide, ws_of (List.mem_of_getElem? (i := 1145) (by decide +kernel)) (by decide +kernel)⟩
theorem fk_RX11_111 : FLk RX11 111 9 57 := ⟨_, _, _, ck_9, by decide, ws_of (List.mem_of_getElem? (i := 1146) (by decide +kernel)) (by decide +kernel)⟩
theorem fk_RX11_114 : FLk RX11 114 9 58 := ⟨_, _, _, ck_9, by decide, ws_of (List.mem_of_getElem? (i := 1147) (by decide +kernel)) (by decide +kernel)⟩
theorem fk_RX11_125 : FLk RX11 125 9 0 := ⟨_, _, _, ck_9, by decide, ws_of (List.mem_of_getElem? (i := 1089) (by decide +kernel)) (by decide +kernel)⟩
theorem fk_RX11_149 : FLk RX11 149 9 1 := ⟨_, _, _, ck_9, by decide, ws_of (List.mem_of_getElem? (i := 1090) (by decide +kernel)) (by decide +kernel)⟩
theorem fk_RX11_152 : FLk RX11 152 9 2 := ⟨_, _, _, ck_9, by decide, ws_of (List.mem_of_getElem? (i := 1091) (by decide +kernel)) (by decide +kernel)⟩
theorem fk_RX11_165 : FLk RX11 165 9 3 := ⟨_, _, _, ck_9, by decide, ws_of (List.mem_of_getElem? (i := 1092) (by decide +kernel)) (by decide +kernel)⟩
theorem fk_RX11_168 : FLk RX11 168 9 4 := ⟨_, _, _, ck_9, by decide, ws_of (List.mem_of_getElem? (i := 1093) (by decide +kernel)) (by decide +kernel)⟩
theorem fk_RX11_191 : FLk RX11 191 9 16 := ⟨_, _, _, ck_9, by decide, ws_of (List.mem_of_getElem? (i := 1105) (by decide +kernel)) (by decide +kernel)⟩
theorem fk_RX11_207 : FLk RX11 207 9 17 := ⟨_, _, _, ck_9, by decide, ws_of (List.mem_of_getElem? (i := 1106) (by decide +kernel)) (by decide +kernel)⟩
theorem fk_RX11_210 : FLk RX11 210 9 18 := ⟨_, _, _, ck_9, by decide, ws_of (List.mem_of_getElem? (i := 1107) (by decide +kernel)) (by decide +kernel)⟩
theorem fk_RX11_213 : FLk RX11 213 9 19 := ⟨_, _, _, ck_9, by decide, ws_of (List.mem_of_getElem? (i := 1108) (by decide +kernel)) (by decide +kernel)⟩
theorem fk_RX11_228 : FLk RX11 228 9 21 := ⟨_, _, _, ck_9, by decide, ws_of (List.mem_of_getElem? (i := 1110) (by decide +kernel)) (by decide +kernel)⟩
theorem fk_RX11_239 : FLk RX11 239 9 22 := ⟨_, _, _, ck_9, by decide, ws_of (List.mem_of_getElem? (i := 1111) (by decide +kernel)) (by decide +kernel)⟩
theorem fk_RX11_242 : FLk RX11 242 9 23 := ⟨_, _, _, ck_9, by decide, ws_of (List.mem_of_getElem? (i := 1112) (by decide +kernel)) (by decide +kernel)⟩
theorem fk_RX11_249 : FLk RX11 249 9 24 := ⟨_, _, _, ck_9, by decide, ws_of (List.mem_of_getElem? (i := 1113) (by decide +kernel)) (by decide +kernel)⟩
theorem fk_RX11_255 : FLk RX11 255 9 25 := ⟨_, _, _, ck_9, by decide, ws_of (List.mem_of_getElem? (i := 1114) (by decide +kernel)) (by decide +kernel)⟩
theorem fk_RX11_289 : FLk RX11 289 9 31 := ⟨_, _, _, ck_9, by decide, ws_of (List.mem_of_getElem? (i := 1120) (by decide +kernel)) (by decide +kernel)⟩
theorem fk_RX11_301 : FLk RX11 301 9 33 := ⟨_, _, _, ck_9, by decide, ws_of (List.mem_of_getElem? (i := 1122) (by decide +kernel)) (by decide +kernel)⟩
theorem fk_RX11_318 : FLk RX11 318 9 34 := ⟨_, _, _, ck_9, by decide, ws_of (List.mem_of_getElem? (i := 1123) (by decide +kernel)) (by decide +kernel)⟩
theorem fk_RX11_321 : FLk RX11 321 9 35 := ⟨_, _, _, ck_9, by decide, ws_of (List.mem_of_getElem? (i := 1124) (by decide +kernel)) (by decide +kernel)⟩
theorem fk_RX11_336 : FLk RX11 336 9 37 := ⟨_, _, _, ck_9, by decide, ws_of (List.mem_of_getElem? (i := 1126) (by decide +kernel)) (by decide +kernel)⟩
theorem fk_RX11_342 : FLk RX11 342 9 42 := ⟨_, _, _, ck_9, by decide, ws_of (List.mem_of_getElem? (i := 1131) (by decide +kernel)) (by decide +kernel)⟩
theorem fk_RX11_371 : FLk RX11 371 9 46 := ⟨_, _, _, ck_9, by decide, ws_of (List.mem_of_getElem? (i := 1135) (by decide +kernel)) (by decide +kernel)⟩
theorem fk_RX11_392 : FLk RX11 392 9 50 := ⟨_, _, _, ck_9, by decide, ws_of (List.mem_of_getElem? (i := 1139) (by decide +kernel)) (by decide +kernel)⟩
theorem fk_RX11_404 : FLk RX11 404 9 52 := ⟨_, _, _, ck_9, by decide, ws_of (List.mem_of_getElem? (i := 1141) (by decide +kernel)) (by decide +kernel)⟩
theorem fk_RX11_407 : FLk RX11 407 9 53 := ⟨_, _, _, ck_9, by decide, ws_of (List.mem_of_getElem? (i := 1142) (by decide +kernel)) (by decide +kernel)⟩
theorem fk_RX2_9 : FLk RX2 9 2 0 := ⟨_, _, _, ck_2, by decide, ws_of (List.mem_of_getElem? (i := 203) (by decide +kernel)) (by decide +kernel)⟩
theorem fk_RX2_13 : FLk RX2 13 2 1 := ⟨_, _, _, ck_2, by decide, ws_of (List.mem_of_getElem? (i := 204) (by decide +kernel)) (by decide +kernel)⟩
theorem fk_RX2_16 : FLk RX2 16 2 2 := ⟨_, _, _, ck_2, by decide, ws_of (List.mem_of_getElem? (i := 205) (by decide +kernel)) (by decide +kernel)⟩
theorem fk_RX3_11 : FLk RX3 11 3 0 := ⟨_, _, _, ck_3, by decide, ws_of (List.mem_of_getElem? (i := 315) (by decide +kernel)) (by decide +kernel)⟩
theorem fk_RX3_15 : FLk RX3 15 3 1 := ⟨_, _, _, ck_3, by decide, ws_of (List.mem_of_getElem? (i := 316) (by decide +kernel)) (by decide +kernel)⟩
theorem fk_RX3_18 : FLk RX3 18 3 2 := ⟨_, _, _, ck_3, by decide, ws_of (List.mem_of_getElem? (i := 317) (by decide +kernel)) (by decide +kernel)⟩
theorem fk_RX3_28 : FLk RX3 28 6 7 := ⟨_, _, _, ck_6, by decide, ws_of (List.mem_of_getElem? (i := 168) (by decide +kernel)) (by decide +kernel)⟩
theorem fk_RX3_31 : FLk RX3 31 6 8 := ⟨_, _, _, ck_6, by decide, ws_of (List.mem_of_getElem? (i := 171) (by decide +kernel)) (by decide +kernel)⟩
theorem fk_RX4_9 : FLk RX4 9 4 0 := ⟨_, _, _, ck_4, by decide, ws_of (List.mem_of_getElem? (i := 219) (by decide +kernel)) (by decide +kernel)⟩
theorem fk_RX4_15 : FLk RX4 15 4 1 := ⟨_, _, _, ck_4, by decide, ws_of (List.mem_of_getElem? (i := 220) (by decide +kernel)) (by decide +kernel)⟩
theorem fk_RX4_18 : FLk RX4 18 4 3 := ⟨_, _, _, ck_4, by decide, ws_of (List.mem_of_getElem? (i := 222) (by decide +kernel)) (by decide +kernel)⟩
theorem fk_RX4_22 : FLk RX4 22 4 4 := ⟨_, _, _, ck_4, by decide, ws_of (List.mem_of_getElem? (i := 223) (by decide +kernel)) (by decide +kernel)⟩
theorem fk_RX4_25 : FLk RX4 25 4 5 := ⟨_, _, _, ck_4, by decide, ws_of (List.mem_of_getElem? (i := 224) (by decide +kernel)) (by decide +kernel)⟩
theorem fk_RX4_28 : FLk RX4 28 4 2 := ⟨_, _, _, ck_4, by decide, ws_of (List.mem_of_getElem? (i := 221) (by decide +kernel)) (by decide +kernel)⟩
theorem fk_RX7_9 : FLk RX7 9 5 0 := ⟨_, _, _, ck_5, by decide, ws_of (List.mem_of_getElem? (i := 332) (by decide +kernel)) (by decide +kernel)⟩
theorem fk_RX7_15 : FLk RX7 15 5 1 := ⟨_, _, _, ck_5, by decide, ws_of (List.mem_of_getElem? (i := 333) (by decide +kernel)) (by decide +kernel)⟩
theorem fk_RX7_18 : FLk RX7 18 5 2 := ⟨_, _, _, ck_5, by decide, ws_of (List.mem_of_getElem? (i := 334) (by decide +kernel)) (by decide +kernel)⟩
theorem fk_RX7_21 : FLk RX7 21 5 3 := ⟨_, _, _, ck_5, by decide, ws_of (List.mem_of_getElem? (i := 335) (by decide +kernel)) (by decide +kernel)⟩
theorem fk_RX7_24 : FLk RX7 24 5 4 := ⟨_, _, _, ck_5, by decide, ws_of (List.mem_of_getElem? (i := 336) (by decide +kernel)) (by decide +kernel)⟩
theorem fk_RX7_27 : FLk RX7 27 5 5 := ⟨_, _, _, ck_5, by decide, ws_of (List.mem_of_getElem? (i := 337) (by decide +kernel)) (by decide +kernel)⟩
theorem fk_RX8_9 : FLk RX8 9 6 0 := ⟨_, _, _, ck_6, by decide, ws_of (List.mem_of_getElem? (i := 160) (by decide +kernel)) (by decide +kernel)⟩
theorem fk_RX8_15 : FLk RX8 15 6 1 := ⟨_, _, _, ck_6, by decide, ws_of (List.mem_of_getElem? (i := 161) (by decide +kernel)) (by decide +kernel)⟩
theorem fk_RX8_18 : FLk RX8 18 6 2 := ⟨_, _, _, ck_6, by decide, ws_of (List.mem_of_getElem? (i := 162) (by decide +kernel)) (by decide +kernel)⟩
theorem fk_RX8_21 : FLk RX8 21 6 3 := ⟨_, _, _, ck_6, by decide, ws_of (List.mem_of_getElem? (i := 163) (by decide +kernel)) (by decide +kernel)⟩
theorem fk_RX8_25 : FLk RX8 25 6 4 := ⟨_, _, _, ck_6, by decide, ws_of (List.mem_of_getElem? (i := 164) (by decide +kernel)) (by decide +kernel)⟩
theorem fk_RX8_28 : FLk RX8 28 6 5 := ⟨_, _, _, ck_6, by decide, ws_of (List.mem_of_getElem? (i := 165) (by decide +kernel)) (by decide +kernel)⟩
theorem fk_RX8_31 : FLk RX8 31 6 6 := ⟨_, _, _, ck_6, by decide, ws_of (List.mem_of_getElem? (i := 166) (by decide +kernel)) (by decide +kernel)⟩
theorem fk_RX8_89 : FLk RX8 89 6 7 := ⟨_, _, _, ck_6, by decide, ws_of (List.mem_of_getElem? (i := 169) (by decide +kernel)) (by decide +kernel)⟩
theorem fk_RX8_93 : FLk RX8 93 6 8 := ⟨_, _, _, ck_6, by decide, ws_of (List.mem_of_getElem? (i := 172) (by decide +kernel)) (by decide +kernel)⟩
theorem fk_RX8_96 : FLk RX8 96 6 9 := ⟨_, _, _, ck_6, by decide, ws_of (List.mem_of_getElem? (i := 174) (by decide +kernel)) (by decide +kernel)⟩
theorem fk_RX9_9 : FLk RX9 9 7 0 := ⟨_, _, _, ck_7, by decide, ws_of (List.mem_of_getElem? (i := 123) (by decide +kernel)) (by decide +kernel)⟩
theorem fk_RX9_18 : FLk RX9 18 7 1 := ⟨_, _, _, ck_7, by decide, ws_of (List.mem_of_getElem? (i := 125) (by decide +kernel)) (by decide +kernel)⟩
theorem fk_RX9_21 : FLk RX9 21 7 2 := ⟨_, _, _, ck_7, by decide, ws_of (List.mem_of_getElem? (i := 127) (by decide +kernel)) (by decide +kernel)⟩
theorem fk_RX9_24 : FLk RX9 24 7 4 := ⟨_, _, _, ck_7, by decide, ws_of (List.mem_of_getElem? (i := 131) (by decide +kernel)) (by decide +kernel)⟩
theorem fk_RX9_28 : FLk RX9 28 7 5 := ⟨_, _, _, ck_7, by decide, ws_of (List.mem_of_getElem? (i := 133) (by decide +kernel)) (by decide +kernel)⟩
theorem fk_RX9_31 : FLk RX9 31 7 6 := ⟨_, _, _, ck_7, by decide, ws_of (List.mem_of_getElem? (i := 135) (by decide +kernel)) (by decide +kernel)⟩
theorem fk_RX9_34 : FLk RX9 34 7 3 := ⟨_, _, _, ck_7, by decide, ws_of (List.mem_of_getElem? (i := 129) (by decide +kernel)) (by decide +kernel)⟩
theorem fi_RX0_32 : FLi RX0 32 0 1 := ⟨_, _, _, ck_0, by decide, ws_of (List.mem_of_getElem? (i := 245) (by decide +kernel)) (by decide +kernel), rfl, by decide +kernel⟩
theorem fi_RX1_36 : FLi RX1 36 1 2 := ⟨_, _, _, ck_1, by decide, ws_of (List.mem_of_getElem? (i := 259) (by decide +kernel)) (by decide +kernel), rfl, by decide +kernel⟩
theorem fi_RX1_44 : FLi RX1 44 1 3 := ⟨_, _, _, ck_1, by decide, ws_of (List.mem_of_getElem? (i := 260) (by decide +kernel)) (by decide +kernel), rfl, by decide +kernel⟩
theorem fi_RX1_47 : FLi RX1 47 1 6 := ⟨_, _, _, ck_1, by decide, ws_of (List.mem_of_getElem? (i := 263) (by decide +kernel)) (by decide +kernel), rfl, by decide +kernel⟩
theorem fi_RX1_50 : FLi RX1 50 1 11 := ⟨_, _, _, ck_1, by decide, ws_of (List.mem_of_getElem? (i := 268) (by decide +kernel)) (by decide +kernel), rfl, by decide +kernel⟩
theorem fi_RX1_67 : FLi RX1 67 1 7 := ⟨_, _, _, ck_1, by decide, ws_of (List.mem_of_getElem? (i := 264) (by decide +kernel)) (by decide +kernel), rfl, by decide +kernel⟩
theorem fi_RX1_87 : FLi RX1 87 1 12 := ⟨_, _, _, ck_1, by decide, ws_of (List.mem_of_getElem? (i := 269) (by decide +kernel)) (by decide +kernel), rfl, by decide +kernel⟩
theorem fi_RX1_90 : FLi RX1 90 1 13 := ⟨_, _, _, ck_1, by decide, ws_of (List.mem_of_getElem? (i := 270) (by decide +kernel)) (by decide +kernel), rfl, by decide +kernel⟩
theorem fi_RX1_93 : FLi RX1 93 1 14 := ⟨_, _, _, ck_1, by decide, ws_of (List.mem_of_getElem? (i := 271) (by decide +kernel)) (by decide +kernel), rfl, by decide +kernel⟩
theorem fi_RX1_96 : FLi RX1 96 1 15 := ⟨_, _, _, ck_1, by decide, ws_of (List.mem_of_getElem? (i := 273) (by decide +kernel)) (by decide +kernel), rfl, by decide +kernel⟩
theorem fi_RX10_73 : FLi RX10 73 8 1 := ⟨_, _, _, ck_8, by decide, ws_of (List.mem_of_getElem? (i := 352) (by decide +kernel)) (by decide +kernel), rfl, by decide +kernel⟩
theorem fi_RX10_81 : FLi RX10 81 7 0 := ⟨_, _, _, ck_7, by decide, ws_of (List.mem_of_getElem? (i := 124) (by decide +kernel)) (by decide +kernel), rfl, by decide +kernel⟩
theorem fi_RX10_87 : FLi RX10 87 7 1 := ⟨_, _, _, ck_7, by decide, ws_of (List.mem_of_getElem? (i := 126) (by decide +kernel)) (by decide +kernel), rfl, by decide +kernel⟩
theorem fi_RX10_90 : FLi RX10 90 7 2 := ⟨_, _, _, ck_7, by decide, ws_of (List.mem_of_getElem? (i := 128) (by decide +kernel)) (by decide +kernel), rfl, by decide +kernel⟩
theorem fi_RX10_130 : FLi RX10 130 8 2 := ⟨_, _, _, ck_8, by decide, ws_of (List.mem_of_getElem? (i := 353) (by decide +kernel)) (by decide +kernel), rfl, by decide +kernel⟩
theorem fi_RX10_217 : FLi RX10 217 8 5 := ⟨_, _, _, ck_8, by decide, ws_of (List.mem_of_getElem? (i := 356) (by decide +kernel)) (by decide +kernel), rfl, by decide +kernel⟩
theorem fi_RX11_125 : FLi RX11 125 9 0 := ⟨_, _, _, ck_9, by decide, ws_of (List.mem_of_getElem? (i := 1089) (by decide +kernel)) (by decide +kernel), rfl, by decide +kernel⟩
theorem fi_RX11_149 : FLi RX11 149 9 1 := ⟨_, _, _, ck_9, by decide, ws_of (List.mem_of_getElem? (i := 1090) (by decide +kernel)) (by decide +kernel), rfl, by decide +kernel⟩
theorem fi_RX11_152 : FLi RX11 152 9 2 := ⟨_, _, _, ck_9, by decide, ws_of (List.mem_of_getElem? (i := 1091) (by decide +kernel)) (by decide +kernel), rfl, by decide +kernel⟩
theorem fi_RX11_165 : FLi RX11 165 9 3 := ⟨_, _, _, ck_9, by decide, ws_of (List.mem_of_getElem? (i := 1092) (by decide +kernel)) (by decide +kernel), rfl, by decide +kernel⟩
theorem fi_RX11_168 : FLi RX11 168 9 4 := ⟨_, _, _, ck_9, by decide, ws_of (List.mem_of_getElem? (i := 1093) (by decide +kernel)) (by decide +kernel), rfl, by decide +kernel⟩
theorem fi_RX11_191 : FLi RX11 191 9 16 := ⟨_, _, _, ck_9, by decide, ws_of (List.mem_of_getElem? (i := 1105) (by decide +kernel)) (by decide +kernel), rfl, by decide +kernel⟩
theorem fi_RX11_207 : FLi RX11 207 9 17 := ⟨_, _, _, ck_9, by decide, ws_of (List.mem_of_getElem? (i := 1106) (by decide +kernel)) (by decide +kernel), rfl, by decide +kernel⟩
theorem fi_RX11_210 : FLi RX11 210 9 18 := ⟨_, _, _, ck_9, by decide, ws_of (List.mem_of_getElem? (i := 1107) (by decide +kernel)) (by decide +kernel), rfl, by decide +kernel⟩
theorem fi_RX11_213 : FLi RX11 213 9 19 := ⟨_, _, _, ck_9, by decide, ws_of (List.mem_of_getElem? (i := 1108) (by decide +kernel)) (by decide +kernel), rfl, by decide +kernel⟩
theorem fi_RX11_228 : FLi RX11 228 9 21 := ⟨_, _, _, ck_9, by decide, ws_of (List.mem_of_getElem? (i := 1110) (by decide +kernel)) (by decide +kernel), rfl, by decide +kernel⟩
theorem fi_RX11_239 : FLi RX11 239 9 22 := ⟨_, _, _, ck_9, by decide, ws_of (List.mem_of_getElem? (i := 1111) (by decide +kernel)) (by decide +kernel), rfl, by decide +kernel⟩
theorem fi_RX11_242 : FLi RX11 242 9 23 := ⟨_, _, _, ck_9, by decide, ws_of (List.mem_of_getElem? (i := 1112) (by decide +kernel)) (by decide +kernel), rfl, by decide +kernel⟩
theorem fi_RX11_249 : FLi RX11 249 9 24 := ⟨_, _, _, ck_9, by decide, ws_of (List.mem_of_getElem? (i := 1113) (by decide +kernel)) (by decide +kernel), rfl, by decide +kernel⟩
theorem fi_RX11_255 : FLi RX11 255 9 25 := ⟨_, _, _, ck_9, by decide, ws_of (List.mem_of_getElem? (i := 1114) (by decide +kernel)) (by decide +kernel), rfl, by decide +kernel⟩
theorem fi_RX11_289 : FLi RX11 289 9 31 := ⟨_, _, _, ck_9, by decide, ws_of (List.mem_of_getElem? (i := 1120) (by decide +kernel)) (by decide +kernel), rfl, by decide +kernel⟩
theorem fi_RX11_301 : FLi RX11 301 9 33 := ⟨_, _, _, ck_9, by decide, ws_of (List.mem_of_getElem? (i := 1122) (by decide +kernel)) (by decide +kernel), rfl, by decide +kernel⟩
theorem fi_RX11_318 : FLi RX11 318 9 34 := ⟨_, _, _, ck_9, by decide, ws_of (List.mem_of_getElem? (i := 1123) (by decide +kernel)) (by decide +kernel), rfl, by decide +kernel⟩
theorem fi_RX11_321 : FLi RX11 321 9 35 := ⟨_, _, _, ck_9, by decide, ws_of (List.mem_of_getElem? (i := 1124) (by decide +kernel)) (by decide +kernel), rfl, by decide +kernel⟩
theorem fi_RX11_336 : FLi RX11 336 9 37 := ⟨_, _, _, ck_9, by decide, ws_of (List.mem_of_getElem? (i := 1126) (by decide +kernel)) (by decide +kernel), rfl, by decide +kernel⟩
theorem fi_RX11_342 : FLi RX11 342 9 42 := ⟨_, _, _, ck_9, by decide, ws_of (List.mem_of_getElem? (i := 1131) (by decide +kernel)) (by decide +kernel), rfl, by decide +kernel⟩
theorem fi_RX11_371 : FLi RX11 371 9 46 := ⟨_, _, _, ck_9, by decide, ws_of (List.mem_of_getElem? (i := 1135) (by decide +kernel)) (by decide +kernel), rfl, by decide +kernel⟩
theorem fi_RX11_392 : FLi RX11 392 9 50 := ⟨_, _, _, ck_9, by decide, ws_of (List.mem_of_getElem? (i := 1139) (by decide +kernel)) (by decide +kernel), rfl, by decide +kernel⟩
theorem fi_RX11_404 : FLi RX11 404 9 52 := ⟨_, _, _, ck_9, by decide, ws_of (List.mem_of_getElem? (i := 1141) (by decide +kernel)) (by decide +kernel), rfl, by decide +kernel⟩
theorem fi_RX11_407 : FLi RX11 407 9 53 := ⟨_, _, _, ck_9, by decide, ws_of (List.mem_of_getElem? (i := 1142) (by decide +kernel)) (by decide +kernel), rfl, by decide +kernel⟩
theorem fi_RX2_16 : FLi RX2 16 2 2 := ⟨_, _, _, ck_2, by decide, ws_of (List.mem_of_getElem? (i := 205) (by decide +kernel)) (by decide +kernel), rfl, by decide +kernel⟩
theorem fi_RX3_18 : FLi RX3 18 3 2 := ⟨_, _, _, ck_3, by decide, ws_of (List.mem_of_getElem? (i := 317) (by decide +kernel)) (by decide +kernel), rfl, by decide +kernel⟩
theorem fi_RX4_18 : FLi RX4 18 4 3 := ⟨_, _, _, ck_4, by decide, ws_of (List.mem_of_getElem? (i := 222) (by decide +kernel)) (by decide +kernel), rfl, by decide +kernel⟩
theorem fi_RX4_22 : FLi RX4 22 4 4 := ⟨_, _, _, ck_4, by decide, ws_of (List.mem_of_getElem? (i := 223) (by decide +kernel)) (by decide +kernel), rfl, by decide +kernel⟩
theorem fi_RX4_25 : FLi RX4 25 4 5 := ⟨_, _, _, ck_4, by decide, ws_of (List.mem_of_getElem? (i := 224) (by decide +kernel)) (by decide +kernel), rfl, by decide +kernel⟩
theorem fi_RX4_28 : FLi RX4 28 4 2 := ⟨_, _, _, ck_4, by decide, ws_of (List.mem_of_getElem? (i := 221) (by decide +kernel)) (by decide +kernel), rfl, by decide +kernel⟩
theorem fi_RX7_9 : FLi RX7 9 5 0 := ⟨_, _, _, ck_5, by decide, ws_of (List.mem_of_getElem? (i := 332) (by decide +kernel)) (by decide +kernel), rfl, by decide +kernel⟩
theorem fi_RX7_15 : FLi RX7 15 5 1 := ⟨_, _, _, ck_5, by decide, ws_of (List.mem_of_getElem? (i := 333) (by decide +kernel)) (by decide +kernel), rfl, by decide +kernel⟩
theorem fi_RX7_18 : FLi RX7 18 5 2 := ⟨_, _, _, ck_5, by decide, ws_of (List.mem_of_getElem? (i := 334) (by decide +kernel)) (by decide +kernel), rfl, by decide +kernel⟩
theorem fi_RX7_21 : FLi RX7 21 5 3 := ⟨_, _, _, ck_5, by decide, ws_of (List.mem_of_getElem? (i := 335) (by decide +kernel)) (by decide +kernel), rfl, by decide +kernel⟩
theorem fi_RX7_24 : FLi RX7 24 5 4 := ⟨_, _, _, ck_5, by decide, ws_of (List.mem_of_getElem? (i := 336) (by decide +kernel)) (by decide +kernel), rfl, by decide +kernel⟩
theorem fi_RX7_27 : FLi RX7 27 5 5 := ⟨_, _, _, ck_5, by decide, ws_of (List.mem_of_getElem? (i := 337) (by decide +kernel)) (by decide +kernel), rfl, by decide +kernel⟩
theorem fi_RX8_21 : FLi RX8 21 6 3 := ⟨_, _, _, ck_6, by decide, ws_of (List.mem_of_getElem? (i := 163) (by decide +kernel)) (by decide +kernel), rfl, by decide +kernel⟩
theorem fi_RX8_25 : FLi RX8 25 6 4 := ⟨_, _, _, ck_6, by decide, ws_of (List.mem_of_getElem? (i := 164) (by decide +kernel)) (by decide +kernel), rfl, by decide +kernel⟩
theorem fi_RX8_28 : FLi RX8 28 6 5 := ⟨_, _, _, ck_6, by decide, ws_of (List.mem_of_getElem? (i := 165) (by decide +kernel)) (by decide +kernel), rfl, by decide +kernel⟩
theorem fi_RX8_31 : FLi RX8 31 6 6 := ⟨_, _, _, ck_6, by decide, ws_of (List.mem_of_getElem? (i := 166) (by decide +kernel)) (by decide +kernel), rfl, by decide +kernel⟩
theorem fi_RX8_89 : FLi RX8 89 6 7 := ⟨_, _, _, ck_6, by decide, ws_of (List.mem_of_getElem? (i := 169) (by decide +kernel)) (by decide +kernel), rfl, by decide +kernel⟩
theorem fi_RX8_93 : FLi RX8 93 6 8 := ⟨_, _, _, ck_6, by decide, ws_of (List.mem_of_getElem? (i := 172) (by decide +kernel)) (by decide +kernel), rfl, by decide +kernel⟩
theorem fi_RX8_96 : FLi RX8 96 6 9 := ⟨_, _, _, ck_6, by decide, ws_of (List.mem_of_getElem? (i := 174) (by decide +kernel)) (by decide +kernel), rfl, by decide +kernel⟩
theorem fi_RX9_9 : FLi RX9 9 7 0 := ⟨_, _, _, ck_7, by decide, ws_of (List.mem_of_getElem? (i := 123) (by decide +kernel)) (by decide +kernel), rfl, by decide +kernel⟩
theorem fi_RX9_18 : FLi RX9 18 7 1 := ⟨_, _, _, ck_7, by decide, ws_of (List.mem_of_getElem? (i := 125) (by decide +kernel)) (by decide +kernel), rfl, by decide +kernel⟩
theorem fi_RX9_21 : FLi RX9 21 7 2 := ⟨_, _, _, ck_7, by decide, ws_of (List.mem_of_getElem? (i := 127) (by decide +kernel)) (by decide +kernel), rfl, by decide +kernel⟩
theorem fi_RX9_34 : FLi RX9 34 7 3 := ⟨_, _, _, ck_7, by decide, ws_of (List.mem_of_getElem? (i := 129) (by decide +kernel)) (by decide +kernel), rfl, by decide +kernel⟩
theorem fs_RX5_9 : SLk RX5 9 1001 := ⟨by decide, ws_of (List.mem_of_getElem? (i := 777) (by decide +kernel)) (by decide +kernel)⟩
theorem fs_RX5_19 : SLk RX5 19 1000 := ⟨by decide, ws_of (List.mem_of_getElem? (i := 782) (by decide +kernel)) (by decide +kernel)⟩
theorem fs_RX5_26 : SLk RX5 26 1002 := ⟨by decide, ws_of (List.mem_of_getElem? (i := 701) (by decide +kernel)) (by decide +kernel)⟩
theorem kc_RJ6_265 : Cond.constant RJ6 265 (iz (1431655765)) ∈ WS := ws_of (List.mem_of_getElem? (i := 528) (by decide +kernel)) (by decide +kernel)
theorem kc_RJ6_266 : Cond.constant RJ6 266 (iz (858993459)) ∈ WS := ws_of (List.mem_of_getElem? (i := 529) (by decide +kernel)) (by decide +kernel)
theorem kc_RJ6_267 : Cond.constant RJ6 267 (iz (252645135)) ∈ WS := ws_of (List.mem_of_getElem? (i := 530) (by decide +kernel)) (by decide +kernel)
theorem kc_RX1_55 : Cond.constant RX1 55 (iz (19088743)) ∈ WS := ws_of (List.mem_of_getElem? (i := 703) (by decide +kernel)) (by decide +kernel)
theorem kc_RX10_86 : Cond.constant RX10 86 (iz (19088743)) ∈ WS := ws_of (List.mem_of_getElem? (i := 403) (by decide +kernel)) (by decide +kernel)
theorem kc_RX10_129 : Cond.constant RX10 129 (iz (65535)) ∈ WS := ws_of (List.mem_of_getElem? (i := 489) (by decide +kernel)) (by decide +kernel)
theorem kc_RX10_295 : Cond.constant RX10 295 (iz (-1000000)) ∈ WS := ws_of (List.mem_of_getElem? (i := 864) (by decide +kernel)) (by decide +kernel)
theorem kc_RX10_296 : Cond.constantLong RX10 296 (lz (-1)) ∈ WS := ws_of (List.mem_of_getElem? (i := 869) (by decide +kernel)) (by decide +kernel)
theorem kc_RX11_231 : Cond.constant RX11 231 (iz (65536)) ∈ WS := ws_of (List.mem_of_getElem? (i := 1348) (by decide +kernel)) (by decide +kernel)
theorem kc_RX11_235 : Cond.constant RX11 235 (iz (65535)) ∈ WS := ws_of (List.mem_of_getElem? (i := 1339) (by decide +kernel)) (by decide +kernel)
theorem kc_RX11_351 : Cond.constant RX11 351 (iz (-1000000)) ∈ WS := ws_of (List.mem_of_getElem? (i := 1510) (by decide +kernel)) (by decide +kernel)
theorem kc_RX11_361 : Cond.constantLong RX11 361 (lz (-1)) ∈ WS := ws_of (List.mem_of_getElem? (i := 1535) (by decide +kernel)) (by decide +kernel)
theorem kc_RX11_380 : Cond.constantLong RX11 380 (lz (420)) ∈ WS := ws_of (List.mem_of_getElem? (i := 1564) (by decide +kernel)) (by decide +kernel)
theorem kc_RX3_54 : Cond.constant RX3 54 (iz (19088743)) ∈ WS := ws_of (List.mem_of_getElem? (i := 950) (by decide +kernel)) (by decide +kernel)
theorem kc_RX4_33 : Cond.constant RX4 33 (iz (19088743)) ∈ WS := ws_of (List.mem_of_getElem? (i := 788) (by decide +kernel)) (by decide +kernel)
theorem kc_RX6_17 : Cond.constant RX6 17 (iz (19088743)) ∈ WS := ws_of (List.mem_of_getElem? (i := 414) (by decide +kernel)) (by decide +kernel)
theorem kc_RX8_51 : Cond.constant RX8 51 (iz (19088743)) ∈ WS := ws_of (List.mem_of_getElem? (i := 561) (by decide +kernel)) (by decide +kernel)
theorem kc_RX8_92 : Cond.constant RX8 92 (iz (134217728)) ∈ WS := ws_of (List.mem_of_getElem? (i := 556) (by decide +kernel)) (by decide +kernel)
theorem kc_RX9_17 : Cond.constant RX9 17 (iz (19088743)) ∈ WS := ws_of (List.mem_of_getElem? (i := 122) (by decide +kernel)) (by decide +kernel)
