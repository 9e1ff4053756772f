/-! the methods, the links that they use: all out of the tables -/
abbrev mX5_get : MM := (RX5, cX5_get, 2, (some .int), yX5_get, [])
abbrev mX6_told : MM := (RX6, cX6_told, 3, (some (.object "MarkStacks$Sign")), yX6_told, [])
abbrev mX6_widthOf : MM := (RX6, cX6_widthOf, 2, (some .int), yX6_widthOf, [])
abbrev mX0_heightOf : MM := (RX0, cX0_heightOf, 2, (some .int), yX0_heightOf, [])
abbrev mX5_clear : MM := (RX5, cX5_clear, 1, none, yX5_clear, [])
abbrev mX0_begin : MM := (RX0, cX0_begin, 3, none, yX0_begin, [])
abbrev mX1_firstMark : MM := (RX1, cX1_firstMark, 2, (some .int), yX1_firstMark, [])
abbrev mX1_endOf : MM := (RX1, cX1_endOf, 2, (some .int), yX1_endOf, [])
abbrev mX0_anchorFor : MM := (RX0, cX0_anchorFor, 4, (some .int), yX0_anchorFor, [])
abbrev mX5_add : MM := (RX5, cX5_add, 2, none, yX5_add, [])
abbrev mX0_addBox : MM := (RX0, cX0_addBox, 6, none, yX0_addBox, [])
abbrev mX0_layMark : MM := (RX0, cX0_layMark, 6, none, yX0_layMark, [])
abbrev mX0_lay : MM := (RX0, cX0_lay, 5, none, yX0_lay, [])
abbrev mX0_overlapsAt : MM := (RX0, cX0_overlapsAt, 5, (some .boolean), yX0_overlapsAt, [])
abbrev mX0_overlaps : MM := (RX0, cX0_overlaps, 5, (some .boolean), yX0_overlaps, [])
abbrev mX5_addAll : MM := (RX5, cX5_addAll, 4, none, yX5_addAll, [])
abbrev mX1_expandAll : MM := (RX1, cX1_expandAll, 3, none, yX1_expandAll, [])
abbrev mX5_takeOver : MM := (RX5, cX5_takeOver, 2, none, yX5_takeOver, [])
abbrev mX6_kindOf : MM := (RX6, cX6_kindOf, 2, (some .int), yX6_kindOf, [])
abbrev mX6_classOf : MM := (RX6, cX6_classOf, 2, (some .int), yX6_classOf, [])
abbrev mX5_put : MM := (RX5, cX5_put, 3, none, yX5_put, [])
abbrev mX1_sinkMark : MM := (RX1, cX1_sinkMark, 4, none, yX1_sinkMark, [])
abbrev mX1_findClusters : MM := (RX1, cX1_findClusters, 3, none, yX1_findClusters, [])
abbrev mX6_findPair : MM := (RX6, cX6_findPair, 5, (some .int), yX6_findPair, [])
abbrev mX6_findMade : MM := (RX6, cX6_findMade, 5, (some .int), yX6_findMade, [])
abbrev mX1_composeCluster : MM := (RX1, cX1_composeCluster, 10, none, yX1_composeCluster, [])
abbrev mX1_derive : MM := (RX1, cX1_derive, 5, none, yX1_derive, [])
abbrev mX1_marksIn : MM := (RX1, cX1_marksIn, 2, (some .int), yX1_marksIn, [])
abbrev mX1_penOf : MM := (RX1, cX1_penOf, 4, (some .int), yX1_penOf, [])
abbrev mX1_classWith : MM := (RX1, cX1_classWith, 4, (some .int), yX1_classWith, [])
abbrev mX1_countPassed : MM := (RX1, cX1_countPassed, 8, (some .int), yX1_countPassed, [])
abbrev mX1_countSwaps : MM := (RX1, cX1_countSwaps, 5, (some .int), yX1_countSwaps, [])
abbrev mX1_countOrders : MM := (RX1, cX1_countOrders, 9, (some .long), yX1_countOrders, [])
abbrev mX1_marksUpTo : MM := (RX1, cX1_marksUpTo, 5, (some .int), yX1_marksUpTo, [])
abbrev mX1_isOfSide : MM := (RX1, cX1_isOfSide, 3, (some .boolean), yX1_isOfSide, [])
abbrev mX1_marksOfSide : MM := (RX1, cX1_marksOfSide, 5, (some .int), yX1_marksOfSide, [])
abbrev mX1_writeWithout : MM := (RX1, cX1_writeWithout, 8, none, yX1_writeWithout, [])
abbrev mX1_hasSameSigns : MM := (RX1, cX1_hasSameSigns, 8, (some .boolean), yX1_hasSameSigns, [])
abbrev mX1_isFoundAt : MM := (RX1, cX1_isFoundAt, 6, (some .boolean), yX1_isFoundAt, [])
abbrev mX2_memoryAt : MM := (RX2, cX2_memoryAt, 2, (some (.object "MarkStacks$Memory")), yX2_memoryAt, [])
abbrev mX2_forget : MM := (RX2, cX2_forget, 1, none, yX2_forget, [])
abbrev mX6_lineAt : MM := (RX6, cX6_lineAt, 3, (some (.object "MarkStacks$Row")), yX6_lineAt, [])
abbrev mX3_keep : MM := (RX3, cX3_keep, 4, none, yX3_keep, [])
abbrev mX2_record : MM := (RX2, cX2_record, 3, none, yX2_record, [])
abbrev mX3_giveBack : MM := (RX3, cX3_giveBack, 4, none, yX3_giveBack, [])
abbrev mX2_takeBack : MM := (RX2, cX2_takeBack, 3, (some .int), yX2_takeBack, [])
abbrev mX6_clusterAt : MM := (RX6, cX6_clusterAt, 5, (some .int), yX6_clusterAt, [])
abbrev mX4_tellLine : MM := (RX4, cX4_tellLine, 2, none, yX4_tellLine, [])
abbrev mX9_byteAt : MM := (RX9, cX9_byteAt, 2, (some .int), yX9_byteAt, [])
abbrev mX9_isSeparator : MM := (RX9, cX9_isSeparator, 1, (some .boolean), yX9_isSeparator, [])
abbrev mX9_isLetter : MM := (RX9, cX9_isLetter, 1, (some .boolean), yX9_isLetter, [])
abbrev mX9_isDigit : MM := (RX9, cX9_isDigit, 1, (some .boolean), yX9_isDigit, [])
abbrev mX9_advance : MM := (RX9, cX9_advance, 1, none, yX9_advance, [])
abbrev mX9_begin : MM := (RX9, cX9_begin, 2, none, yX9_begin, [])
abbrev mJ0_coder_7d493 : MM := (RJ0, cJ0_coder_7d493, 1, (some .byte), yJ0_coder_7d493, [])
abbrev mJ0_length_8abf5 : MM := (RJ0, cJ0_length_8abf5, 1, (some .int), yJ0_length_8abf5, [])
abbrev mJ0_isLatin1_aae02 : MM := (RJ0, cJ0_isLatin1_aae02, 1, (some .boolean), yJ0_isLatin1_aae02, [])
abbrev mJ3_checkIndex_8e157 : MM := (RJ3, cJ3_checkIndex_8e157, 3, (some .int), yJ3_checkIndex_8e157, [])
abbrev mJ0_checkIndex_df160 : MM := (RJ0, cJ0_checkIndex_df160, 2, none, yJ0_checkIndex_df160, [])
abbrev mJ1_charAt_3b067 : MM := (RJ1, cJ1_charAt_3b067, 2, (some .char), yJ1_charAt_3b067, [])
abbrev mJ0_charAt_5068e : MM := (RJ0, cJ0_charAt_5068e, 2, (some .char), yJ0_charAt_5068e, [])
abbrev mX9_isWord : MM := (RX9, cX9_isWord, 3, (some .boolean), yX9_isWord, [])
abbrev mX9_fail : MM := (RX9, cX9_fail, 2, none, yX9_fail, [])
abbrev mX4_readConjunction : MM := (RX4, cX4_readConjunction, 5, (some .long), yX4_readConjunction, [])
abbrev mX4_readTest : MM := (RX4, cX4_readTest, 5, (some .long), yX4_readTest, [])
abbrev mX9_isSymbol : MM := (RX9, cX9_isSymbol, 2, (some .boolean), yX9_isSymbol, [])
abbrev mX9_takeNumber : MM := (RX9, cX9_takeNumber, 4, (some .int), yX9_takeNumber, [])
abbrev mX4_propertyAhead : MM := (RX4, cX4_propertyAhead, 1, (some .int), yX4_propertyAhead, [])
abbrev mX4_valueAt : MM := (RX4, cX4_valueAt, 5, (some .int), yX4_valueAt, [])
abbrev mX4_readValue : MM := (RX4, cX4_readValue, 4, none, yX4_readValue, [])
abbrev mJ6_compare_7cf53 : MM := (RJ6, cJ6_compare_7cf53, 2, (some .int), yJ6_compare_7cf53, [])
abbrev mX4_readComparison : MM := (RX4, cX4_readComparison, 7, (some .long), yX4_readComparison, [])
abbrev mX4_allPlaces : MM := (RX4, cX4_allPlaces, 1, (some .long), yX4_allPlaces, [])
abbrev mX9_takeSymbol : MM := (RX9, cX9_takeSymbol, 2, none, yX9_takeSymbol, [])
abbrev mX4_readFactor : MM := (RX4, cX4_readFactor, 5, (some .long), yX4_readFactor, [])
abbrev mX9_takeEnd : MM := (RX9, cX9_takeEnd, 1, none, yX9_takeEnd, [])
abbrev mJ13_bitCount_95d88 : MM := (RJ13, cJ13_bitCount_95d88, 2, (some .int), yJ13_bitCount_95d88, [])
abbrev mJ6_numberOfTrailingZeros_0f7a4 : MM := (RJ6, cJ6_numberOfTrailingZeros_0f7a4, 2, (some .int), yJ6_numberOfTrailingZeros_0f7a4, [])
abbrev mJ13_numberOfTrailingZeros_95d88 : MM := (RJ13, cJ13_numberOfTrailingZeros_95d88, 3, (some .int), yJ13_numberOfTrailingZeros_95d88, [])
abbrev mX4_readQuery : MM := (RX4, cX4_readQuery, 5, (some .int), yX4_readQuery, [])
abbrev mX5_insert : MM := (RX5, cX5_insert, 4, none, yX5_insert, [])
abbrev mX5_cut : MM := (RX5, cX5_cut, 5, none, yX5_cut, [])
abbrev mX5_contains : MM := (RX5, cX5_contains, 3, (some .boolean), yX5_contains, [])
abbrev mX5_firstUnlike : MM := (RX5, cX5_firstUnlike, 4, (some .int), yX5_firstUnlike, [])
abbrev mX6_empty : MM := (RX6, cX6_empty, 2, none, yX6_empty, [])
abbrev mX6_countKind : MM := (RX6, cX6_countKind, 4, (some .int), yX6_countKind, [])
abbrev mX6_countSpare : MM := (RX6, cX6_countSpare, 3, (some .int), yX6_countSpare, [])
abbrev mX6_countExpandedWith : MM := (RX6, cX6_countExpandedWith, 4, (some .int), yX6_countExpandedWith, [])
abbrev mX6_countLinesWith : MM := (RX6, cX6_countLinesWith, 4, (some .int), yX6_countLinesWith, [])
abbrev mX6_findName : MM := (RX6, cX6_findName, 3, (some .int), yX6_findName, [])
abbrev mX6_sideOfClass : MM := (RX6, cX6_sideOfClass, 4, (some .int), yX6_sideOfClass, [])
abbrev mX6_mayHaveClass : MM := (RX6, cX6_mayHaveClass, 4, (some .boolean), yX6_mayHaveClass, [])
abbrev mX7_takeOver : MM := (RX7, cX7_takeOver, 2, none, yX7_takeOver, [])
abbrev mX6_takeOver : MM := (RX6, cX6_takeOver, 3, none, yX6_takeOver, [])
abbrev mX7_begin : MM := (RX7, cX7_begin, 3, none, yX7_begin, [])
abbrev mX7_addPart : MM := (RX7, cX7_addPart, 2, none, yX7_addPart, [])
abbrev mX7_part : MM := (RX7, cX7_part, 2, (some .int), yX7_part, [])
abbrev mX7_letterAt : MM := (RX7, cX7_letterAt, 3, (some .int), yX7_letterAt, [])
abbrev mX7_number : MM := (RX7, cX7_number, 2, (some .int), yX7_number, [])
abbrev mX8_isSignAhead : MM := (RX8, cX8_isSignAhead, 1, (some .boolean), yX8_isSignAhead, [])
abbrev mX9_packedName : MM := (RX9, cX9_packedName, 3, (some .int), yX9_packedName, [])
abbrev mX9_isName : MM := (RX9, cX9_isName, 1, (some .boolean), yX9_isName, [])
abbrev mX8_takeName : MM := (RX8, cX8_takeName, 2, (some .int), yX8_takeName, [])
abbrev mX8_beginSign : MM := (RX8, cX8_beginSign, 3, (some (.object "MarkStacks$Sign")), yX8_beginSign, [])
abbrev mX8_endSign : MM := (RX8, cX8_endSign, 1, none, yX8_endSign, [])
abbrev mX8_readBase : MM := (RX8, cX8_readBase, 2, none, yX8_readBase, [])
abbrev mX8_takeSide : MM := (RX8, cX8_takeSide, 4, (some .int), yX8_takeSide, [])
abbrev mX8_readMark : MM := (RX8, cX8_readMark, 2, none, yX8_readMark, [])
abbrev mX8_findSign : MM := (RX8, cX8_findSign, 2, (some .int), yX8_findSign, [])
abbrev mX8_takeFirst : MM := (RX8, cX8_takeFirst, 2, (some .int), yX8_takeFirst, [])
abbrev mX8_takeSecond : MM := (RX8, cX8_takeSecond, 3, (some .int), yX8_takeSecond, [])
abbrev mX8_readPair : MM := (RX8, cX8_readPair, 2, none, yX8_readPair, [])
abbrev mX8_readLine : MM := (RX8, cX8_readLine, 4, none, yX8_readLine, [])
abbrev mX8_readText : MM := (RX8, cX8_readText, 3, (some .int), yX8_readText, [])
abbrev mX9_hasRoomFor : MM := (RX9, cX9_hasRoomFor, 2, (some .boolean), yX9_hasRoomFor, [])
abbrev mX9_append : MM := (RX9, cX9_append, 3, none, yX9_append, [])
abbrev mX10_feed : MM := (RX10, cX10_feed, 6, (some .int), yX10_feed, [])
abbrev mX10_needLength : MM := (RX10, cX10_needLength, 3, none, yX10_needLength, [])
abbrev mX10_load : MM := (RX10, cX10_load, 3, (some .int), yX10_load, [])
abbrev mX10_errorPosition : MM := (RX10, cX10_errorPosition, 1, (some .int), yX10_errorPosition, [])
abbrev mX10_needIn : MM := (RX10, cX10_needIn, 3, none, yX10_needIn, [])
abbrev mX10_size : MM := (RX10, cX10_size, 2, (some .int), yX10_size, [])
abbrev mX10_needSign : MM := (RX10, cX10_needSign, 2, none, yX10_needSign, [])
abbrev mX10_sign : MM := (RX10, cX10_sign, 4, (some .int), yX10_sign, [])
abbrev mX10_letter : MM := (RX10, cX10_letter, 3, (some .int), yX10_letter, [])
abbrev mX10_expanded : MM := (RX10, cX10_expanded, 4, (some .int), yX10_expanded, [])
abbrev mX10_pairOf : MM := (RX10, cX10_pairOf, 3, (some .int), yX10_pairOf, [])
abbrev mX10_used : MM := (RX10, cX10_used, 2, (some .int), yX10_used, [])
abbrev mX10_recomposed : MM := (RX10, cX10_recomposed, 2, (some .int), yX10_recomposed, [])
abbrev mX10_needLine : MM := (RX10, cX10_needLine, 2, none, yX10_needLine, [])
abbrev mX10_greatestCrown : MM := (RX10, cX10_greatestCrown, 3, (some .int), yX10_greatestCrown, [])
abbrev mX10_leastFoot : MM := (RX10, cX10_leastFoot, 3, (some .int), yX10_leastFoot, [])
abbrev mX10_clashesWithNext : MM := (RX10, cX10_clashesWithNext, 2, (some .boolean), yX10_clashesWithNext, [])
abbrev mX10_countClashes : MM := (RX10, cX10_countClashes, 3, (some .int), yX10_countClashes, [])
abbrev mX10_line : MM := (RX10, cX10_line, 4, (some .int), yX10_line, [])
abbrev mX10_rowOf : MM := (RX10, cX10_rowOf, 4, (some (.object "MarkStacks$Row")), yX10_rowOf, [])
abbrev mX10_at : MM := (RX10, cX10_at, 5, (some .int), yX10_at, [])
abbrev mX10_unlike : MM := (RX10, cX10_unlike, 3, (some .int), yX10_unlike, [])
abbrev mX10_clusterOf : MM := (RX10, cX10_clusterOf, 4, (some .int), yX10_clusterOf, [])
abbrev mX10_needCluster : MM := (RX10, cX10_needCluster, 3, none, yX10_needCluster, [])
abbrev mX10_cluster : MM := (RX10, cX10_cluster, 4, (some .int), yX10_cluster, [])
abbrev mX10_box : MM := (RX10, cX10_box, 5, (some .int), yX10_box, [])
abbrev mX10_spellings : MM := (RX10, cX10_spellings, 3, (some .long), yX10_spellings, [])
abbrev mX10_clashes : MM := (RX10, cX10_clashes, 3, (some .boolean), yX10_clashes, [])
abbrev mX10_fullest : MM := (RX10, cX10_fullest, 5, (some .int), yX10_fullest, [])
abbrev mX10_needBoth : MM := (RX10, cX10_needBoth, 3, none, yX10_needBoth, [])
abbrev mX10_compare : MM := (RX10, cX10_compare, 6, (some .int), yX10_compare, [])
abbrev mX10_areBare : MM := (RX10, cX10_areBare, 3, (some .boolean), yX10_areBare, [])
abbrev mX10_matches : MM := (RX10, cX10_matches, 6, (some .int), yX10_matches, [])
abbrev mX10_match : MM := (RX10, cX10_match, 7, (some .int), yX10_match, [])
abbrev mX10_saved : MM := (RX10, cX10_saved, 4, (some .int), yX10_saved, [])
abbrev mX10_bestClass : MM := (RX10, cX10_bestClass, 7, (some .int), yX10_bestClass, [])
abbrev mX10_meanMarks : MM := (RX10, cX10_meanMarks, 5, (some .double), yX10_meanMarks, [])
abbrev mX10_shortness : MM := (RX10, cX10_shortness, 3, (some .float), yX10_shortness, [])
abbrev mX10_hand : MM := (RX10, cX10_hand, 3, (some .int), yX10_hand, [])
abbrev mX10_allowIn : MM := (RX10, cX10_allowIn, 3, none, yX10_allowIn, [])
abbrev mX10_type : MM := (RX10, cX10_type, 5, (some .int), yX10_type, [])
abbrev mX10_erase : MM := (RX10, cX10_erase, 5, (some .int), yX10_erase, [])
abbrev mX10_stack : MM := (RX10, cX10_stack, 6, (some .int), yX10_stack, [])
abbrev mX10_strip : MM := (RX10, cX10_strip, 5, (some .int), yX10_strip, [])
abbrev mX10_rewrite : MM := (RX10, cX10_rewrite, 4, (some .int), yX10_rewrite, [])
abbrev mX10_decompose : MM := (RX10, cX10_decompose, 2, (some .int), yX10_decompose, [])
abbrev mX10_compose : MM := (RX10, cX10_compose, 2, (some .int), yX10_compose, [])
abbrev mX10_join : MM := (RX10, cX10_join, 5, (some .int), yX10_join, [])
abbrev mX10_setClass : MM := (RX10, cX10_setClass, 5, (some .int), yX10_setClass, [])
abbrev mX10_setSpare : MM := (RX10, cX10_setSpare, 5, (some .int), yX10_setSpare, [])
abbrev mX10_writeName : MM := (RX10, cX10_writeName, 4, none, yX10_writeName, [])
abbrev mX10_format : MM := (RX10, cX10_format, 5, (some .int), yX10_format, [])
abbrev mX10_formattedByte : MM := (RX10, cX10_formattedByte, 2, (some .int), yX10_formattedByte, [])
abbrev mX10_undoCount : MM := (RX10, cX10_undoCount, 1, (some .int), yX10_undoCount, [])
abbrev mX10_undo : MM := (RX10, cX10_undo, 1, (some .int), yX10_undo, [])
abbrev mX10_saveSnapshot : MM := (RX10, cX10_saveSnapshot, 1, none, yX10_saveSnapshot, [])
abbrev mX10_restoreSnapshot : MM := (RX10, cX10_restoreSnapshot, 1, (some .boolean), yX10_restoreSnapshot, [])
abbrev mX10_query : MM := (RX10, cX10_query, 3, (some .int), yX10_query, [])
abbrev mX12_thrown : MM := (RX12, cX12_thrown, 1, (some .int), yX12_thrown, [])
abbrev mX12_raise : MM := (RX12, cX12_raise, 2, (some .int), yX12_raise, [])
abbrev mX12_inRange : MM := (RX12, cX12_inRange, 6, (some .boolean), yX12_inRange, [])
abbrev mX12_of : MM := (RX12, cX12_of, 2, (some .int), yX12_of, [])
abbrev mX12_spot : MM := (RX12, cX12_spot, 2, (some .int), yX12_spot, [])
abbrev mX12_isSign : MM := (RX12, cX12_isSign, 2, (some .boolean), yX12_isSign, [])
abbrev mX12_isOfKind : MM := (RX12, cX12_isOfKind, 3, (some .boolean), yX12_isOfKind, [])
abbrev mX12_isLine : MM := (RX12, cX12_isLine, 2, (some .boolean), yX12_isLine, [])
abbrev mX12_isPlace : MM := (RX12, cX12_isPlace, 3, (some .boolean), yX12_isPlace, [])
abbrev mX12_noLine : MM := (RX12, cX12_noLine, 2, (some .boolean), yX12_noLine, [])
abbrev mX12_noSign : MM := (RX12, cX12_noSign, 2, (some .boolean), yX12_noSign, [])
abbrev mX12_noTwoLines : MM := (RX12, cX12_noTwoLines, 3, (some .boolean), yX12_noTwoLines, [])
abbrev mX12_parts : MM := (RX12, cX12_parts, 4, (some .int), yX12_parts, [])
abbrev mX12_expand : MM := (RX12, cX12_expand, 5, (some .int), yX12_expand, [])
abbrev mX12_isMark : MM := (RX12, cX12_isMark, 2, (some .boolean), yX12_isMark, [])
abbrev mX12_add : MM := (RX12, cX12_add, 3, none, yX12_add, [])
abbrev mX12_addExpanded : MM := (RX12, cX12_addExpanded, 4, none, yX12_addExpanded, [])
abbrev mX12_layDecomposed : MM := (RX12, cX12_layDecomposed, 3, none, yX12_layDecomposed, [])
abbrev mX12_findPair : MM := (RX12, cX12_findPair, 4, (some .int), yX12_findPair, [])
abbrev mX12_layComposed : MM := (RX12, cX12_layComposed, 10, none, yX12_layComposed, [])
abbrev mX12_layForms : MM := (RX12, cX12_layForms, 2, none, yX12_layForms, [])
abbrev mX12_layClusters : MM := (RX12, cX12_layClusters, 3, none, yX12_layClusters, [])
abbrev mX12_baseOf : MM := (RX12, cX12_baseOf, 3, (some .int), yX12_baseOf, [])
abbrev mX12_firstMark : MM := (RX12, cX12_firstMark, 2, (some .int), yX12_firstMark, [])
abbrev mX12_marksOf : MM := (RX12, cX12_marksOf, 2, (some .int), yX12_marksOf, [])
abbrev mX12_ofBase : MM := (RX12, cX12_ofBase, 4, (some .int), yX12_ofBase, [])
abbrev mX12_penOf : MM := (RX12, cX12_penOf, 4, (some .int), yX12_penOf, [])
abbrev mX12_isCluster : MM := (RX12, cX12_isCluster, 3, (some .boolean), yX12_isCluster, [])
abbrev mX12_noCluster : MM := (RX12, cX12_noCluster, 3, (some .boolean), yX12_noCluster, [])
abbrev mX12_layBoxes : MM := (RX12, cX12_layBoxes, 14, none, yX12_layBoxes, [])
abbrev mX12_doOverlap : MM := (RX12, cX12_doOverlap, 7, (some .boolean), yX12_doOverlap, [])
abbrev mX12_isClash : MM := (RX12, cX12_isClash, 5, (some .boolean), yX12_isClash, [])
abbrev mX12_manyOf : MM := (RX12, cX12_manyOf, 4, (some .int), yX12_manyOf, [])
abbrev mX12_spares : MM := (RX12, cX12_spares, 3, (some .int), yX12_spares, [])
abbrev mX12_size : MM := (RX12, cX12_size, 2, (some .int), yX12_size, [])
abbrev mX12_linesWith : MM := (RX12, cX12_linesWith, 6, (some .int), yX12_linesWith, [])
abbrev mX12_sign : MM := (RX12, cX12_sign, 3, (some .int), yX12_sign, [])
abbrev mX12_letter : MM := (RX12, cX12_letter, 4, (some .int), yX12_letter, [])
abbrev mX12_expanded : MM := (RX12, cX12_expanded, 4, (some .int), yX12_expanded, [])
abbrev mX12_pairOf : MM := (RX12, cX12_pairOf, 3, (some .int), yX12_pairOf, [])
abbrev mX12_used : MM := (RX12, cX12_used, 7, (some .int), yX12_used, [])
abbrev mX12_recomposed : MM := (RX12, cX12_recomposed, 2, (some .int), yX12_recomposed, [])
abbrev mX12_widths : MM := (RX12, cX12_widths, 1, (some .int), yX12_widths, [])
abbrev mX12_crowns : MM := (RX12, cX12_crowns, 3, (some .int), yX12_crowns, [])
abbrev mX12_feet : MM := (RX12, cX12_feet, 3, (some .int), yX12_feet, [])
abbrev mX12_clashesOf : MM := (RX12, cX12_clashesOf, 3, (some .int), yX12_clashesOf, [])
abbrev mX12_line : MM := (RX12, cX12_line, 3, (some .int), yX12_line, [])
abbrev mX12_manyIn : MM := (RX12, cX12_manyIn, 3, (some .int), yX12_manyIn, [])
abbrev mX12_signIn : MM := (RX12, cX12_signIn, 4, (some .int), yX12_signIn, [])
abbrev mX12_at : MM := (RX12, cX12_at, 4, (some .int), yX12_at, [])
abbrev mX12_unlike : MM := (RX12, cX12_unlike, 6, (some .int), yX12_unlike, [])
abbrev mX12_clusterAt : MM := (RX12, cX12_clusterAt, 6, (some .int), yX12_clusterAt, [])
abbrev mX12_clusterOf : MM := (RX12, cX12_clusterOf, 3, (some .int), yX12_clusterOf, [])
abbrev mX12_composedOf : MM := (RX12, cX12_composedOf, 4, (some .int), yX12_composedOf, [])
abbrev mX12_cluster : MM := (RX12, cX12_cluster, 4, (some .int), yX12_cluster, [])
abbrev mX12_box : MM := (RX12, cX12_box, 5, (some .int), yX12_box, [])
abbrev mX12_spellings : MM := (RX12, cX12_spellings, 10, (some .long), yX12_spellings, [])
abbrev mX12_clashes : MM := (RX12, cX12_clashes, 3, (some .boolean), yX12_clashes, [])
abbrev mX12_fullest : MM := (RX12, cX12_fullest, 4, (some .int), yX12_fullest, [])
abbrev mX12_layTwo : MM := (RX12, cX12_layTwo, 4, none, yX12_layTwo, [])
abbrev mX12_compare : MM := (RX12, cX12_compare, 5, (some .int), yX12_compare, [])
abbrev mX12_otherBase : MM := (RX12, cX12_otherBase, 3, (some .int), yX12_otherBase, [])
abbrev mX12_areBare : MM := (RX12, cX12_areBare, 5, (some .boolean), yX12_areBare, [])
abbrev mX12_isSameCluster : MM := (RX12, cX12_isSameCluster, 6, (some .boolean), yX12_isSameCluster, [])
abbrev mX12_isMatch : MM := (RX12, cX12_isMatch, 5, (some .boolean), yX12_isMatch, [])
abbrev mX12_noPattern : MM := (RX12, cX12_noPattern, 3, (some .boolean), yX12_noPattern, [])
abbrev mX12_matches : MM := (RX12, cX12_matches, 6, (some .int), yX12_matches, [])
abbrev mX12_match : MM := (RX12, cX12_match, 7, (some .int), yX12_match, [])
abbrev mX12_saved : MM := (RX12, cX12_saved, 5, (some .int), yX12_saved, [])
abbrev mX12_mayHave : MM := (RX12, cX12_mayHave, 4, (some .boolean), yX12_mayHave, [])
abbrev mX12_bestClass : MM := (RX12, cX12_bestClass, 7, (some .int), yX12_bestClass, [])
abbrev mX12_meanMarks : MM := (RX12, cX12_meanMarks, 4, (some .double), yX12_meanMarks, [])
abbrev mX12_shortness : MM := (RX12, cX12_shortness, 2, (some .float), yX12_shortness, [])
abbrev mX12_copy : MM := (RX12, cX12_copy, 5, none, yX12_copy, [])
abbrev mX12_record : MM := (RX12, cX12_record, 2, none, yX12_record, [])
abbrev mX12_hand : MM := (RX12, cX12_hand, 3, (some .int), yX12_hand, [])
abbrev mX12_type : MM := (RX12, cX12_type, 5, (some .int), yX12_type, [])
abbrev mX12_shorten : MM := (RX12, cX12_shorten, 4, none, yX12_shorten, [])
abbrev mX12_erase : MM := (RX12, cX12_erase, 7, (some .int), yX12_erase, [])
abbrev mX12_write : MM := (RX12, cX12_write, 5, none, yX12_write, [])
abbrev mX12_stack : MM := (RX12, cX12_stack, 7, (some .int), yX12_stack, [])
abbrev mX12_strip : MM := (RX12, cX12_strip, 8, (some .int), yX12_strip, [])
abbrev mX12_become : MM := (RX12, cX12_become, 4, (some .int), yX12_become, [])
abbrev mX12_decompose : MM := (RX12, cX12_decompose, 2, (some .int), yX12_decompose, [])
abbrev mX12_compose : MM := (RX12, cX12_compose, 2, (some .int), yX12_compose, [])
abbrev mX12_join : MM := (RX12, cX12_join, 6, (some .int), yX12_join, [])
abbrev mX12_set : MM := (RX12, cX12_set, 4, (some .int), yX12_set, [])
abbrev mX12_setClass : MM := (RX12, cX12_setClass, 3, (some .int), yX12_setClass, [])
abbrev mX12_setSpare : MM := (RX12, cX12_setSpare, 3, (some .int), yX12_setSpare, [])
abbrev mX12_put : MM := (RX12, cX12_put, 2, none, yX12_put, [])
abbrev mX12_putSign : MM := (RX12, cX12_putSign, 3, none, yX12_putSign, [])
abbrev mX12_format : MM := (RX12, cX12_format, 4, (some .int), yX12_format, [])
abbrev mX12_formattedByte : MM := (RX12, cX12_formattedByte, 2, (some .int), yX12_formattedByte, [])
abbrev mX12_undoCount : MM := (RX12, cX12_undoCount, 1, (some .int), yX12_undoCount, [])
abbrev mX12_undo : MM := (RX12, cX12_undo, 1, (some .int), yX12_undo, [])
abbrev mX12_saveSnapshot : MM := (RX12, cX12_saveSnapshot, 1, none, yX12_saveSnapshot, [])
abbrev mX12_restoreSnapshot : MM := (RX12, cX12_restoreSnapshot, 1, (some .boolean), yX12_restoreSnapshot, [])
abbrev mX12_feed : MM := (RX12, cX12_feed, 8, (some .int), yX12_feed, [])
abbrev mX12_errorPosition : MM := (RX12, cX12_errorPosition, 1, (some .int), yX12_errorPosition, [])
abbrev mX12_byteAt : MM := (RX12, cX12_byteAt, 2, (some .int), yX12_byteAt, [])
abbrev mX12_isLetter : MM := (RX12, cX12_isLetter, 2, (some .boolean), yX12_isLetter, [])
abbrev mX12_isDigit : MM := (RX12, cX12_isDigit, 2, (some .boolean), yX12_isDigit, [])
abbrev mX12_scan : MM := (RX12, cX12_scan, 1, none, yX12_scan, [])
abbrev mX12_startText : MM := (RX12, cX12_startText, 2, none, yX12_startText, [])
abbrev mX12_finish : MM := (RX12, cX12_finish, 1, (some .int), yX12_finish, [])
abbrev mX12_flaw : MM := (RX12, cX12_flaw, 2, none, yX12_flaw, [])
abbrev mX12_check : MM := (RX12, cX12_check, 3, none, yX12_check, [])
abbrev mX12_advance : MM := (RX12, cX12_advance, 1, none, yX12_advance, [])
abbrev mX12_isSymbol : MM := (RX12, cX12_isSymbol, 2, (some .boolean), yX12_isSymbol, [])
abbrev mX12_isWord : MM := (RX12, cX12_isWord, 4, (some .boolean), yX12_isWord, [])
abbrev mX12_accept : MM := (RX12, cX12_accept, 3, (some .boolean), yX12_accept, [])
abbrev mX12_expectWord : MM := (RX12, cX12_expectWord, 2, none, yX12_expectWord, [])
abbrev mX12_expect : MM := (RX12, cX12_expect, 2, none, yX12_expect, [])
abbrev mJ9_min_f86c9 : MM := (RJ9, cJ9_min_f86c9, 4, (some .long), yJ9_min_f86c9, [])
abbrev mX12_value : MM := (RX12, cX12_value, 3, (some .int), yX12_value, [])
abbrev mX12_readNumber : MM := (RX12, cX12_readNumber, 4, (some .int), yX12_readNumber, [])
abbrev mX12_isNameHere : MM := (RX12, cX12_isNameHere, 3, (some .boolean), yX12_isNameHere, [])
abbrev mX12_letterHere : MM := (RX12, cX12_letterHere, 2, (some .int), yX12_letterHere, [])
abbrev mX12_named : MM := (RX12, cX12_named, 4, (some .int), yX12_named, [])
abbrev mX12_readName : MM := (RX12, cX12_readName, 2, none, yX12_readName, [])
abbrev mX12_lookSign : MM := (RX12, cX12_lookSign, 2, (some .int), yX12_lookSign, [])
abbrev mX12_sideHere : MM := (RX12, cX12_sideHere, 1, (some .int), yX12_sideHere, [])
abbrev mX12_isSideOf : MM := (RX12, cX12_isSideOf, 4, (some .boolean), yX12_isSideOf, [])
abbrev mX12_readBase : MM := (RX12, cX12_readBase, 2, none, yX12_readBase, [])
abbrev mX12_readMark : MM := (RX12, cX12_readMark, 4, none, yX12_readMark, [])
abbrev mX12_readPair : MM := (RX12, cX12_readPair, 5, none, yX12_readPair, [])
abbrev mX12_isSignHere : MM := (RX12, cX12_isSignHere, 1, (some .boolean), yX12_isSignHere, [])
abbrev mX12_readSign : MM := (RX12, cX12_readSign, 2, none, yX12_readSign, [])
abbrev mX12_readLine : MM := (RX12, cX12_readLine, 3, none, yX12_readLine, [])
abbrev mX12_readAll : MM := (RX12, cX12_readAll, 1, none, yX12_readAll, [])
abbrev mX12_load : MM := (RX12, cX12_load, 3, (some .int), yX12_load, [])
abbrev mX12_property : MM := (RX12, cX12_property, 4, (some .int), yX12_property, [])
abbrev mX12_emit : MM := (RX12, cX12_emit, 2, none, yX12_emit, [])
abbrev mX12_enter : MM := (RX12, cX12_enter, 1, none, yX12_enter, [])
abbrev mX12_compileValue : MM := (RX12, cX12_compileValue, 2, none, yX12_compileValue, [])
abbrev mX12_compileFactor : MM := (RX12, cX12_compileFactor, 2, none, yX12_compileFactor, [])
abbrev mX12_compileConjunction : MM := (RX12, cX12_compileConjunction, 1, none, yX12_compileConjunction, [])
abbrev mX12_compileTest : MM := (RX12, cX12_compileTest, 1, none, yX12_compileTest, [])
abbrev mX12_operate : MM := (RX12, cX12_operate, 5, (some .long), yX12_operate, [])
abbrev mX12_holdsFor : MM := (RX12, cX12_holdsFor, 5, (some .boolean), yX12_holdsFor, [])
abbrev mX12_query : MM := (RX12, cX12_query, 5, (some .int), yX12_query, [])
theorem fl_X10_12 : MsFl RX10 12 10 0 := ⟨(RX10, TX10, 14), rfl, by decide, by decide, Or.inl (List.mem_of_getElem? (i := 543) (by decide +kernel))⟩
theorem fl_X10_19 : MsFl RX10 19 10 1 := ⟨(RX10, TX10, 14), rfl, by decide, by decide, Or.inl (List.mem_of_getElem? (i := 544) (by decide +kernel))⟩
theorem fl_X10_28 : MsFl RX10 28 10 2 := ⟨(RX10, TX10, 14), rfl, by decide, by decide, Or.inl (List.mem_of_getElem? (i := 545) (by decide +kernel))⟩
theorem fl_X10_37 : MsFl RX10 37 10 3 := ⟨(RX10, TX10, 14), rfl, by decide, by decide, Or.inl (List.mem_of_getElem? (i := 546) (by decide +kernel))⟩
theorem fl_X10_44 : MsFl RX10 44 10 4 := ⟨(RX10, TX10, 14), rfl, by decide, by decide, Or.inl (List.mem_of_getElem? (i := 547) (by decide +kernel))⟩
theorem fl_X10_51 : MsFl RX10 51 10 5 := ⟨(RX10, TX10, 14), rfl, by decide, by decide, Or.inl (List.mem_of_getElem? (i := 548) (by decide +kernel))⟩
theorem fl_X10_60 : MsFl RX10 60 10 6 := ⟨(RX10, TX10, 14), rfl, by decide, by decide, Or.inl (List.mem_of_getElem? (i := 549) (by decide +kernel))⟩
theorem fl_X10_64 : MsFl RX10 64 10 7 := ⟨(RX10, TX10, 14), rfl, by decide, by decide, Or.inl (List.mem_of_getElem? (i := 550) (by decide +kernel))⟩
theorem fl_X10_70 : MsFl RX10 70 10 8 := ⟨(RX10, TX10, 14), rfl, by decide, by decide, Or.inl (List.mem_of_getElem? (i := 551) (by decide +kernel))⟩
theorem fl_X10_74 : MsFl RX10 74 10 9 := ⟨(RX10, TX10, 14), rfl, by decide, by decide, Or.inl (List.mem_of_getElem? (i := 552) (by decide +kernel))⟩
theorem fl_X10_82 : MsFl RX10 82 10 10 := ⟨(RX10, TX10, 14), rfl, by decide, by decide, Or.inl (List.mem_of_getElem? (i := 553) (by decide +kernel))⟩
theorem fl_X10_86 : MsFl RX10 86 10 11 := ⟨(RX10, TX10, 14), rfl, by decide, by decide, Or.inl (List.mem_of_getElem? (i := 554) (by decide +kernel))⟩
theorem fl_X10_89 : MsFl RX10 89 10 12 := ⟨(RX10, TX10, 14), rfl, by decide, by decide, Or.inl (List.mem_of_getElem? (i := 555) (by decide +kernel))⟩
theorem fl_X10_93 : MsFl RX10 93 10 13 := ⟨(RX10, TX10, 14), rfl, by decide, by decide, Or.inl (List.mem_of_getElem? (i := 556) (by decide +kernel))⟩
theorem fl_X10_104 : MsFl RX10 104 9 1 := ⟨(RX9, TX9, 9), rfl, by decide, by decide, Or.inr ⟨"MarkStacks", List.mem_of_getElem? (i := 181) (by decide +kernel)⟩⟩
theorem fl_X10_115 : MsFl RX10 115 9 8 := ⟨(RX9, TX9, 9), rfl, by decide, by decide, Or.inr ⟨"MarkStacks", List.mem_of_getElem? (i := 193) (by decide +kernel)⟩⟩
theorem fl_X10_116 : MsFl RX10 116 8 1 := ⟨(RX8, TX8, 2), rfl, by decide, by decide, Or.inr ⟨"MarkStacks", List.mem_of_getElem? (i := 376) (by decide +kernel)⟩⟩
theorem fl_X10_125 : MsFl RX10 125 6 4 := ⟨(RX6, TX6, 7), rfl, by decide, by decide, Or.inr ⟨"MarkStacks", List.mem_of_getElem? (i := 341) (by decide +kernel)⟩⟩
theorem fl_X10_139 : MsFl RX10 139 6 5 := ⟨(RX6, TX6, 7), rfl, by decide, by decide, Or.inr ⟨"MarkStacks", List.mem_of_getElem? (i := 345) (by decide +kernel)⟩⟩
theorem fl_X10_142 : MsFl RX10 142 6 6 := ⟨(RX6, TX6, 7), rfl, by decide, by decide, Or.inr ⟨"MarkStacks", List.mem_of_getElem? (i := 350) (by decide +kernel)⟩⟩
theorem fl_X10_152 : MsFl RX10 152 7 1 := ⟨(RX7, TX7, 14), rfl, by decide, by decide, Or.inr ⟨"MarkStacks", List.mem_of_getElem? (i := 257) (by decide +kernel)⟩⟩
theorem fl_X10_173 : MsFl RX10 173 7 3 := ⟨(RX7, TX7, 14), rfl, by decide, by decide, Or.inr ⟨"MarkStacks", List.mem_of_getElem? (i := 262) (by decide +kernel)⟩⟩
theorem fl_X10_196 : MsFl RX10 196 1 3 := ⟨(RX1, TX1, 7), rfl, by decide, by decide, Or.inr ⟨"MarkStacks", List.mem_of_getElem? (i := 464) (by decide +kernel)⟩⟩
theorem fl_X10_209 : MsFl RX10 209 5 1 := ⟨(RX5, TX5, 2), rfl, by decide, by decide, Or.inr ⟨"MarkStacks", List.mem_of_getElem? (i := 242) (by decide +kernel)⟩⟩
theorem fl_X10_212 : MsFl RX10 212 1 2 := ⟨(RX1, TX1, 7), rfl, by decide, by decide, Or.inr ⟨"MarkStacks", List.mem_of_getElem? (i := 462) (by decide +kernel)⟩⟩
theorem fl_X10_218 : MsFl RX10 218 1 4 := ⟨(RX1, TX1, 7), rfl, by decide, by decide, Or.inr ⟨"MarkStacks", List.mem_of_getElem? (i := 466) (by decide +kernel)⟩⟩
theorem fl_X10_252 : MsFl RX10 252 1 5 := ⟨(RX1, TX1, 7), rfl, by decide, by decide, Or.inr ⟨"MarkStacks", List.mem_of_getElem? (i := 469) (by decide +kernel)⟩⟩
theorem fl_X10_258 : MsFl RX10 258 0 8 := ⟨(RX0, TX0, 12), rfl, by decide, by decide, Or.inr ⟨"MarkStacks", List.mem_of_getElem? (i := 509) (by decide +kernel)⟩⟩
theorem fl_X10_261 : MsFl RX10 261 0 9 := ⟨(RX0, TX0, 12), rfl, by decide, by decide, Or.inr ⟨"MarkStacks", List.mem_of_getElem? (i := 511) (by decide +kernel)⟩⟩
theorem fl_X10_264 : MsFl RX10 264 0 10 := ⟨(RX0, TX0, 12), rfl, by decide, by decide, Or.inr ⟨"MarkStacks", List.mem_of_getElem? (i := 513) (by decide +kernel)⟩⟩
theorem fl_X10_267 : MsFl RX10 267 0 11 := ⟨(RX0, TX0, 12), rfl, by decide, by decide, Or.inr ⟨"MarkStacks", List.mem_of_getElem? (i := 515) (by decide +kernel)⟩⟩
theorem fl_X10_270 : MsFl RX10 270 1 6 := ⟨(RX1, TX1, 7), rfl, by decide, by decide, Or.inr ⟨"MarkStacks", List.mem_of_getElem? (i := 471) (by decide +kernel)⟩⟩
theorem fl_X10_273 : MsFl RX10 273 0 1 := ⟨(RX0, TX0, 12), rfl, by decide, by decide, Or.inr ⟨"MarkStacks", List.mem_of_getElem? (i := 497) (by decide +kernel)⟩⟩
theorem fl_X10_276 : MsFl RX10 276 0 2 := ⟨(RX0, TX0, 12), rfl, by decide, by decide, Or.inr ⟨"MarkStacks", List.mem_of_getElem? (i := 499) (by decide +kernel)⟩⟩
theorem fl_X10_279 : MsFl RX10 279 0 3 := ⟨(RX0, TX0, 12), rfl, by decide, by decide, Or.inr ⟨"MarkStacks", List.mem_of_getElem? (i := 501) (by decide +kernel)⟩⟩
theorem fl_X10_282 : MsFl RX10 282 0 4 := ⟨(RX0, TX0, 12), rfl, by decide, by decide, Or.inr ⟨"MarkStacks", List.mem_of_getElem? (i := 503) (by decide +kernel)⟩⟩
theorem fl_X10_285 : MsFl RX10 285 0 5 := ⟨(RX0, TX0, 12), rfl, by decide, by decide, Or.inr ⟨"MarkStacks", List.mem_of_getElem? (i := 505) (by decide +kernel)⟩⟩
theorem fl_X10_350 : MsFl RX10 350 7 4 := ⟨(RX7, TX7, 14), rfl, by decide, by decide, Or.inr ⟨"MarkStacks", List.mem_of_getElem? (i := 270) (by decide +kernel)⟩⟩
theorem fl_X10_353 : MsFl RX10 353 7 13 := ⟨(RX7, TX7, 14), rfl, by decide, by decide, Or.inr ⟨"MarkStacks", List.mem_of_getElem? (i := 302) (by decide +kernel)⟩⟩
theorem fl_X10_360 : MsFl RX10 360 2 2 := ⟨(RX2, TX2, 3), rfl, by decide, by decide, Or.inr ⟨"MarkStacks", List.mem_of_getElem? (i := 440) (by decide +kernel)⟩⟩
theorem fl_X10_374 : MsFl RX10 374 9 7 := ⟨(RX9, TX9, 9), rfl, by decide, by decide, Or.inr ⟨"MarkStacks", List.mem_of_getElem? (i := 191) (by decide +kernel)⟩⟩
theorem fl_X0_9 : MsFl RX0 9 0 0 := ⟨(RX0, TX0, 12), rfl, by decide, by decide, Or.inl (List.mem_of_getElem? (i := 495) (by decide +kernel))⟩
theorem fl_X0_20 : MsFl RX0 20 0 1 := ⟨(RX0, TX0, 12), rfl, by decide, by decide, Or.inl (List.mem_of_getElem? (i := 496) (by decide +kernel))⟩
theorem fl_X0_24 : MsFl RX0 24 0 2 := ⟨(RX0, TX0, 12), rfl, by decide, by decide, Or.inl (List.mem_of_getElem? (i := 498) (by decide +kernel))⟩
theorem fl_X0_27 : MsFl RX0 27 0 3 := ⟨(RX0, TX0, 12), rfl, by decide, by decide, Or.inl (List.mem_of_getElem? (i := 500) (by decide +kernel))⟩
theorem fl_X0_30 : MsFl RX0 30 0 4 := ⟨(RX0, TX0, 12), rfl, by decide, by decide, Or.inl (List.mem_of_getElem? (i := 502) (by decide +kernel))⟩
theorem fl_X0_33 : MsFl RX0 33 0 5 := ⟨(RX0, TX0, 12), rfl, by decide, by decide, Or.inl (List.mem_of_getElem? (i := 504) (by decide +kernel))⟩
theorem fl_X0_36 : MsFl RX0 36 1 5 := ⟨(RX1, TX1, 7), rfl, by decide, by decide, Or.inr ⟨"MarkStacks", List.mem_of_getElem? (i := 468) (by decide +kernel)⟩⟩
theorem fl_X0_63 : MsFl RX0 63 1 2 := ⟨(RX1, TX1, 7), rfl, by decide, by decide, Or.inr ⟨"MarkStacks", List.mem_of_getElem? (i := 461) (by decide +kernel)⟩⟩
theorem fl_X0_69 : MsFl RX0 69 0 10 := ⟨(RX0, TX0, 12), rfl, by decide, by decide, Or.inl (List.mem_of_getElem? (i := 512) (by decide +kernel))⟩
theorem fl_X0_73 : MsFl RX0 73 0 6 := ⟨(RX0, TX0, 12), rfl, by decide, by decide, Or.inl (List.mem_of_getElem? (i := 506) (by decide +kernel))⟩
theorem fl_X0_82 : MsFl RX0 82 0 11 := ⟨(RX0, TX0, 12), rfl, by decide, by decide, Or.inl (List.mem_of_getElem? (i := 514) (by decide +kernel))⟩
theorem fl_X0_85 : MsFl RX0 85 0 7 := ⟨(RX0, TX0, 12), rfl, by decide, by decide, Or.inl (List.mem_of_getElem? (i := 507) (by decide +kernel))⟩
theorem fl_X0_94 : MsFl RX0 94 0 8 := ⟨(RX0, TX0, 12), rfl, by decide, by decide, Or.inl (List.mem_of_getElem? (i := 508) (by decide +kernel))⟩
theorem fl_X0_97 : MsFl RX0 97 0 9 := ⟨(RX0, TX0, 12), rfl, by decide, by decide, Or.inl (List.mem_of_getElem? (i := 510) (by decide +kernel))⟩
theorem fl_X0_104 : MsFl RX0 104 7 7 := ⟨(RX7, TX7, 14), rfl, by decide, by decide, Or.inr ⟨"MarkStacks", List.mem_of_getElem? (i := 281) (by decide +kernel)⟩⟩
theorem fl_X0_109 : MsFl RX0 109 7 5 := ⟨(RX7, TX7, 14), rfl, by decide, by decide, Or.inr ⟨"MarkStacks", List.mem_of_getElem? (i := 272) (by decide +kernel)⟩⟩
theorem fl_X0_115 : MsFl RX0 115 7 10 := ⟨(RX7, TX7, 14), rfl, by decide, by decide, Or.inr ⟨"MarkStacks", List.mem_of_getElem? (i := 290) (by decide +kernel)⟩⟩
theorem fl_X0_118 : MsFl RX0 118 7 6 := ⟨(RX7, TX7, 14), rfl, by decide, by decide, Or.inr ⟨"MarkStacks", List.mem_of_getElem? (i := 277) (by decide +kernel)⟩⟩
theorem fl_X0_125 : MsFl RX0 125 7 8 := ⟨(RX7, TX7, 14), rfl, by decide, by decide, Or.inr ⟨"MarkStacks", List.mem_of_getElem? (i := 284) (by decide +kernel)⟩⟩
theorem fl_X0_128 : MsFl RX0 128 7 9 := ⟨(RX7, TX7, 14), rfl, by decide, by decide, Or.inr ⟨"MarkStacks", List.mem_of_getElem? (i := 287) (by decide +kernel)⟩⟩
theorem fl_X0_134 : MsFl RX0 134 5 1 := ⟨(RX5, TX5, 2), rfl, by decide, by decide, Or.inr ⟨"MarkStacks", List.mem_of_getElem? (i := 241) (by decide +kernel)⟩⟩
theorem fl_X1_9 : MsFl RX1 9 1 0 := ⟨(RX1, TX1, 7), rfl, by decide, by decide, Or.inl (List.mem_of_getElem? (i := 458) (by decide +kernel))⟩
theorem fl_X1_20 : MsFl RX1 20 1 1 := ⟨(RX1, TX1, 7), rfl, by decide, by decide, Or.inl (List.mem_of_getElem? (i := 459) (by decide +kernel))⟩
theorem fl_X1_24 : MsFl RX1 24 1 2 := ⟨(RX1, TX1, 7), rfl, by decide, by decide, Or.inl (List.mem_of_getElem? (i := 460) (by decide +kernel))⟩
theorem fl_X1_27 : MsFl RX1 27 1 3 := ⟨(RX1, TX1, 7), rfl, by decide, by decide, Or.inl (List.mem_of_getElem? (i := 463) (by decide +kernel))⟩
theorem fl_X1_30 : MsFl RX1 30 1 4 := ⟨(RX1, TX1, 7), rfl, by decide, by decide, Or.inl (List.mem_of_getElem? (i := 465) (by decide +kernel))⟩
theorem fl_X1_33 : MsFl RX1 33 1 5 := ⟨(RX1, TX1, 7), rfl, by decide, by decide, Or.inl (List.mem_of_getElem? (i := 467) (by decide +kernel))⟩
theorem fl_X1_36 : MsFl RX1 36 1 6 := ⟨(RX1, TX1, 7), rfl, by decide, by decide, Or.inl (List.mem_of_getElem? (i := 470) (by decide +kernel))⟩
theorem fl_X1_46 : MsFl RX1 46 5 1 := ⟨(RX5, TX5, 2), rfl, by decide, by decide, Or.inr ⟨"MarkStacks", List.mem_of_getElem? (i := 238) (by decide +kernel)⟩⟩
theorem fl_X1_76 : MsFl RX1 76 7 0 := ⟨(RX7, TX7, 14), rfl, by decide, by decide, Or.inr ⟨"MarkStacks", List.mem_of_getElem? (i := 252) (by decide +kernel)⟩⟩
theorem fl_X1_112 : MsFl RX1 112 7 5 := ⟨(RX7, TX7, 14), rfl, by decide, by decide, Or.inr ⟨"MarkStacks", List.mem_of_getElem? (i := 275) (by decide +kernel)⟩⟩
theorem fl_X2_11 : MsFl RX2 11 2 0 := ⟨(RX2, TX2, 3), rfl, by decide, by decide, Or.inl (List.mem_of_getElem? (i := 437) (by decide +kernel))⟩
theorem fl_X2_18 : MsFl RX2 18 2 1 := ⟨(RX2, TX2, 3), rfl, by decide, by decide, Or.inl (List.mem_of_getElem? (i := 438) (by decide +kernel))⟩
theorem fl_X2_22 : MsFl RX2 22 2 2 := ⟨(RX2, TX2, 3), rfl, by decide, by decide, Or.inl (List.mem_of_getElem? (i := 439) (by decide +kernel))⟩
theorem fl_X3_11 : MsFl RX3 11 3 0 := ⟨(RX3, TX3, 4), rfl, by decide, by decide, Or.inl (List.mem_of_getElem? (i := 424) (by decide +kernel))⟩
theorem fl_X3_20 : MsFl RX3 20 3 1 := ⟨(RX3, TX3, 4), rfl, by decide, by decide, Or.inl (List.mem_of_getElem? (i := 425) (by decide +kernel))⟩
theorem fl_X3_24 : MsFl RX3 24 3 2 := ⟨(RX3, TX3, 4), rfl, by decide, by decide, Or.inl (List.mem_of_getElem? (i := 426) (by decide +kernel))⟩
theorem fl_X3_27 : MsFl RX3 27 3 3 := ⟨(RX3, TX3, 4), rfl, by decide, by decide, Or.inl (List.mem_of_getElem? (i := 427) (by decide +kernel))⟩
theorem fl_X3_44 : MsFl RX3 44 6 4 := ⟨(RX6, TX6, 7), rfl, by decide, by decide, Or.inr ⟨"MarkStacks", List.mem_of_getElem? (i := 340) (by decide +kernel)⟩⟩
theorem fl_X3_51 : MsFl RX3 51 7 4 := ⟨(RX7, TX7, 14), rfl, by decide, by decide, Or.inr ⟨"MarkStacks", List.mem_of_getElem? (i := 266) (by decide +kernel)⟩⟩
theorem fl_X3_59 : MsFl RX3 59 7 13 := ⟨(RX7, TX7, 14), rfl, by decide, by decide, Or.inr ⟨"MarkStacks", List.mem_of_getElem? (i := 299) (by decide +kernel)⟩⟩
theorem fl_X3_63 : MsFl RX3 63 6 6 := ⟨(RX6, TX6, 7), rfl, by decide, by decide, Or.inr ⟨"MarkStacks", List.mem_of_getElem? (i := 347) (by decide +kernel)⟩⟩
theorem fl_X4_9 : MsFl RX4 9 4 0 := ⟨(RX4, TX4, 6), rfl, by decide, by decide, Or.inl (List.mem_of_getElem? (i := 390) (by decide +kernel))⟩
theorem fl_X4_15 : MsFl RX4 15 4 1 := ⟨(RX4, TX4, 6), rfl, by decide, by decide, Or.inl (List.mem_of_getElem? (i := 391) (by decide +kernel))⟩
theorem fl_X4_24 : MsFl RX4 24 4 2 := ⟨(RX4, TX4, 6), rfl, by decide, by decide, Or.inl (List.mem_of_getElem? (i := 392) (by decide +kernel))⟩
theorem fl_X4_28 : MsFl RX4 28 4 3 := ⟨(RX4, TX4, 6), rfl, by decide, by decide, Or.inl (List.mem_of_getElem? (i := 393) (by decide +kernel))⟩
theorem fl_X4_31 : MsFl RX4 31 4 4 := ⟨(RX4, TX4, 6), rfl, by decide, by decide, Or.inl (List.mem_of_getElem? (i := 394) (by decide +kernel))⟩
theorem fl_X4_34 : MsFl RX4 34 4 5 := ⟨(RX4, TX4, 6), rfl, by decide, by decide, Or.inl (List.mem_of_getElem? (i := 395) (by decide +kernel))⟩
theorem fl_X4_75 : MsFl RX4 75 6 6 := ⟨(RX6, TX6, 7), rfl, by decide, by decide, Or.inr ⟨"MarkStacks", List.mem_of_getElem? (i := 349) (by decide +kernel)⟩⟩
theorem fl_X4_92 : MsFl RX4 92 5 1 := ⟨(RX5, TX5, 2), rfl, by decide, by decide, Or.inr ⟨"MarkStacks", List.mem_of_getElem? (i := 240) (by decide +kernel)⟩⟩
theorem fl_X4_144 : MsFl RX4 144 9 5 := ⟨(RX9, TX9, 9), rfl, by decide, by decide, Or.inr ⟨"MarkStacks", List.mem_of_getElem? (i := 186) (by decide +kernel)⟩⟩
theorem fl_X4_172 : MsFl RX4 172 7 1 := ⟨(RX7, TX7, 14), rfl, by decide, by decide, Or.inr ⟨"MarkStacks", List.mem_of_getElem? (i := 258) (by decide +kernel)⟩⟩
theorem fl_X4_175 : MsFl RX4 175 7 4 := ⟨(RX7, TX7, 14), rfl, by decide, by decide, Or.inr ⟨"MarkStacks", List.mem_of_getElem? (i := 269) (by decide +kernel)⟩⟩
theorem fl_X4_178 : MsFl RX4 178 7 3 := ⟨(RX7, TX7, 14), rfl, by decide, by decide, Or.inr ⟨"MarkStacks", List.mem_of_getElem? (i := 263) (by decide +kernel)⟩⟩
theorem fl_X5_15 : MsFl RX5 15 5 0 := ⟨(RX5, TX5, 2), rfl, by decide, by decide, Or.inl (List.mem_of_getElem? (i := 236) (by decide +kernel))⟩
theorem fl_X5_21 : MsFl RX5 21 5 1 := ⟨(RX5, TX5, 2), rfl, by decide, by decide, Or.inl (List.mem_of_getElem? (i := 237) (by decide +kernel))⟩
theorem fl_X6_11 : MsFl RX6 11 6 0 := ⟨(RX6, TX6, 7), rfl, by decide, by decide, Or.inl (List.mem_of_getElem? (i := 335) (by decide +kernel))⟩
theorem fl_X6_20 : MsFl RX6 20 6 1 := ⟨(RX6, TX6, 7), rfl, by decide, by decide, Or.inl (List.mem_of_getElem? (i := 336) (by decide +kernel))⟩
theorem fl_X6_27 : MsFl RX6 27 6 2 := ⟨(RX6, TX6, 7), rfl, by decide, by decide, Or.inl (List.mem_of_getElem? (i := 337) (by decide +kernel))⟩
theorem fl_X6_31 : MsFl RX6 31 6 3 := ⟨(RX6, TX6, 7), rfl, by decide, by decide, Or.inl (List.mem_of_getElem? (i := 338) (by decide +kernel))⟩
theorem fl_X6_35 : MsFl RX6 35 6 4 := ⟨(RX6, TX6, 7), rfl, by decide, by decide, Or.inl (List.mem_of_getElem? (i := 339) (by decide +kernel))⟩
theorem fl_X6_39 : MsFl RX6 39 6 5 := ⟨(RX6, TX6, 7), rfl, by decide, by decide, Or.inl (List.mem_of_getElem? (i := 343) (by decide +kernel))⟩
theorem fl_X6_42 : MsFl RX6 42 6 6 := ⟨(RX6, TX6, 7), rfl, by decide, by decide, Or.inl (List.mem_of_getElem? (i := 346) (by decide +kernel))⟩
theorem fl_X6_56 : MsFl RX6 56 7 1 := ⟨(RX7, TX7, 14), rfl, by decide, by decide, Or.inr ⟨"MarkStacks", List.mem_of_getElem? (i := 256) (by decide +kernel)⟩⟩
theorem fl_X6_59 : MsFl RX6 59 7 4 := ⟨(RX7, TX7, 14), rfl, by decide, by decide, Or.inr ⟨"MarkStacks", List.mem_of_getElem? (i := 267) (by decide +kernel)⟩⟩
theorem fl_X6_62 : MsFl RX6 62 7 6 := ⟨(RX7, TX7, 14), rfl, by decide, by decide, Or.inr ⟨"MarkStacks", List.mem_of_getElem? (i := 278) (by decide +kernel)⟩⟩
theorem fl_X6_65 : MsFl RX6 65 7 13 := ⟨(RX7, TX7, 14), rfl, by decide, by decide, Or.inr ⟨"MarkStacks", List.mem_of_getElem? (i := 300) (by decide +kernel)⟩⟩
theorem fl_X6_73 : MsFl RX6 73 7 0 := ⟨(RX7, TX7, 14), rfl, by decide, by decide, Or.inr ⟨"MarkStacks", List.mem_of_getElem? (i := 253) (by decide +kernel)⟩⟩
theorem fl_X6_80 : MsFl RX6 80 7 2 := ⟨(RX7, TX7, 14), rfl, by decide, by decide, Or.inr ⟨"MarkStacks", List.mem_of_getElem? (i := 260) (by decide +kernel)⟩⟩
theorem fl_X6_83 : MsFl RX6 83 7 11 := ⟨(RX7, TX7, 14), rfl, by decide, by decide, Or.inr ⟨"MarkStacks", List.mem_of_getElem? (i := 294) (by decide +kernel)⟩⟩
theorem fl_X6_86 : MsFl RX6 86 7 12 := ⟨(RX7, TX7, 14), rfl, by decide, by decide, Or.inr ⟨"MarkStacks", List.mem_of_getElem? (i := 297) (by decide +kernel)⟩⟩
theorem fl_X6_96 : MsFl RX6 96 7 5 := ⟨(RX7, TX7, 14), rfl, by decide, by decide, Or.inr ⟨"MarkStacks", List.mem_of_getElem? (i := 274) (by decide +kernel)⟩⟩
theorem fl_X6_102 : MsFl RX6 102 5 1 := ⟨(RX5, TX5, 2), rfl, by decide, by decide, Or.inr ⟨"MarkStacks", List.mem_of_getElem? (i := 244) (by decide +kernel)⟩⟩
theorem fl_X7_14 : MsFl RX7 14 7 0 := ⟨(RX7, TX7, 14), rfl, by decide, by decide, Or.inl (List.mem_of_getElem? (i := 251) (by decide +kernel))⟩
theorem fl_X7_20 : MsFl RX7 20 7 1 := ⟨(RX7, TX7, 14), rfl, by decide, by decide, Or.inl (List.mem_of_getElem? (i := 255) (by decide +kernel))⟩
theorem fl_X7_24 : MsFl RX7 24 7 2 := ⟨(RX7, TX7, 14), rfl, by decide, by decide, Or.inl (List.mem_of_getElem? (i := 259) (by decide +kernel))⟩
theorem fl_X7_27 : MsFl RX7 27 7 3 := ⟨(RX7, TX7, 14), rfl, by decide, by decide, Or.inl (List.mem_of_getElem? (i := 261) (by decide +kernel))⟩
theorem fl_X7_30 : MsFl RX7 30 7 4 := ⟨(RX7, TX7, 14), rfl, by decide, by decide, Or.inl (List.mem_of_getElem? (i := 265) (by decide +kernel))⟩
theorem fl_X7_33 : MsFl RX7 33 7 5 := ⟨(RX7, TX7, 14), rfl, by decide, by decide, Or.inl (List.mem_of_getElem? (i := 271) (by decide +kernel))⟩
theorem fl_X7_36 : MsFl RX7 36 7 6 := ⟨(RX7, TX7, 14), rfl, by decide, by decide, Or.inl (List.mem_of_getElem? (i := 276) (by decide +kernel))⟩
theorem fl_X7_39 : MsFl RX7 39 7 7 := ⟨(RX7, TX7, 14), rfl, by decide, by decide, Or.inl (List.mem_of_getElem? (i := 280) (by decide +kernel))⟩
theorem fl_X7_42 : MsFl RX7 42 7 8 := ⟨(RX7, TX7, 14), rfl, by decide, by decide, Or.inl (List.mem_of_getElem? (i := 283) (by decide +kernel))⟩
theorem fl_X7_45 : MsFl RX7 45 7 9 := ⟨(RX7, TX7, 14), rfl, by decide, by decide, Or.inl (List.mem_of_getElem? (i := 286) (by decide +kernel))⟩
theorem fl_X7_48 : MsFl RX7 48 7 10 := ⟨(RX7, TX7, 14), rfl, by decide, by decide, Or.inl (List.mem_of_getElem? (i := 289) (by decide +kernel))⟩
theorem fl_X7_51 : MsFl RX7 51 7 11 := ⟨(RX7, TX7, 14), rfl, by decide, by decide, Or.inl (List.mem_of_getElem? (i := 292) (by decide +kernel))⟩
theorem fl_X7_54 : MsFl RX7 54 7 12 := ⟨(RX7, TX7, 14), rfl, by decide, by decide, Or.inl (List.mem_of_getElem? (i := 295) (by decide +kernel))⟩
theorem fl_X7_57 : MsFl RX7 57 7 13 := ⟨(RX7, TX7, 14), rfl, by decide, by decide, Or.inl (List.mem_of_getElem? (i := 298) (by decide +kernel))⟩
theorem fl_X7_67 : MsFl RX7 67 5 1 := ⟨(RX5, TX5, 2), rfl, by decide, by decide, Or.inr ⟨"MarkStacks", List.mem_of_getElem? (i := 239) (by decide +kernel)⟩⟩
theorem fl_X8_9 : MsFl RX8 9 8 0 := ⟨(RX8, TX8, 2), rfl, by decide, by decide, Or.inl (List.mem_of_getElem? (i := 374) (by decide +kernel))⟩
theorem fl_X8_18 : MsFl RX8 18 8 1 := ⟨(RX8, TX8, 2), rfl, by decide, by decide, Or.inl (List.mem_of_getElem? (i := 375) (by decide +kernel))⟩
theorem fl_X8_65 : MsFl RX8 65 6 5 := ⟨(RX6, TX6, 7), rfl, by decide, by decide, Or.inr ⟨"MarkStacks", List.mem_of_getElem? (i := 344) (by decide +kernel)⟩⟩
theorem fl_X8_73 : MsFl RX8 73 6 6 := ⟨(RX6, TX6, 7), rfl, by decide, by decide, Or.inr ⟨"MarkStacks", List.mem_of_getElem? (i := 348) (by decide +kernel)⟩⟩
theorem fl_X8_83 : MsFl RX8 83 9 7 := ⟨(RX9, TX9, 9), rfl, by decide, by decide, Or.inr ⟨"MarkStacks", List.mem_of_getElem? (i := 190) (by decide +kernel)⟩⟩
theorem fl_X8_88 : MsFl RX8 88 6 4 := ⟨(RX6, TX6, 7), rfl, by decide, by decide, Or.inr ⟨"MarkStacks", List.mem_of_getElem? (i := 342) (by decide +kernel)⟩⟩
theorem fl_X8_117 : MsFl RX8 117 7 6 := ⟨(RX7, TX7, 14), rfl, by decide, by decide, Or.inr ⟨"MarkStacks", List.mem_of_getElem? (i := 279) (by decide +kernel)⟩⟩
theorem fl_X8_120 : MsFl RX8 120 7 7 := ⟨(RX7, TX7, 14), rfl, by decide, by decide, Or.inr ⟨"MarkStacks", List.mem_of_getElem? (i := 282) (by decide +kernel)⟩⟩
theorem fl_X8_123 : MsFl RX8 123 7 8 := ⟨(RX7, TX7, 14), rfl, by decide, by decide, Or.inr ⟨"MarkStacks", List.mem_of_getElem? (i := 285) (by decide +kernel)⟩⟩
theorem fl_X8_126 : MsFl RX8 126 7 9 := ⟨(RX7, TX7, 14), rfl, by decide, by decide, Or.inr ⟨"MarkStacks", List.mem_of_getElem? (i := 288) (by decide +kernel)⟩⟩
theorem fl_X8_135 : MsFl RX8 135 7 4 := ⟨(RX7, TX7, 14), rfl, by decide, by decide, Or.inr ⟨"MarkStacks", List.mem_of_getElem? (i := 268) (by decide +kernel)⟩⟩
theorem fl_X8_141 : MsFl RX8 141 7 5 := ⟨(RX7, TX7, 14), rfl, by decide, by decide, Or.inr ⟨"MarkStacks", List.mem_of_getElem? (i := 273) (by decide +kernel)⟩⟩
theorem fl_X8_144 : MsFl RX8 144 7 10 := ⟨(RX7, TX7, 14), rfl, by decide, by decide, Or.inr ⟨"MarkStacks", List.mem_of_getElem? (i := 291) (by decide +kernel)⟩⟩
theorem fl_X8_159 : MsFl RX8 159 7 11 := ⟨(RX7, TX7, 14), rfl, by decide, by decide, Or.inr ⟨"MarkStacks", List.mem_of_getElem? (i := 293) (by decide +kernel)⟩⟩
theorem fl_X8_165 : MsFl RX8 165 7 12 := ⟨(RX7, TX7, 14), rfl, by decide, by decide, Or.inr ⟨"MarkStacks", List.mem_of_getElem? (i := 296) (by decide +kernel)⟩⟩
theorem fl_X8_168 : MsFl RX8 168 7 0 := ⟨(RX7, TX7, 14), rfl, by decide, by decide, Or.inr ⟨"MarkStacks", List.mem_of_getElem? (i := 254) (by decide +kernel)⟩⟩
theorem fl_X8_180 : MsFl RX8 180 7 13 := ⟨(RX7, TX7, 14), rfl, by decide, by decide, Or.inr ⟨"MarkStacks", List.mem_of_getElem? (i := 301) (by decide +kernel)⟩⟩
theorem fl_X8_189 : MsFl RX8 189 7 3 := ⟨(RX7, TX7, 14), rfl, by decide, by decide, Or.inr ⟨"MarkStacks", List.mem_of_getElem? (i := 264) (by decide +kernel)⟩⟩
theorem fl_X8_199 : MsFl RX8 199 9 5 := ⟨(RX9, TX9, 9), rfl, by decide, by decide, Or.inr ⟨"MarkStacks", List.mem_of_getElem? (i := 187) (by decide +kernel)⟩⟩
theorem fl_X8_202 : MsFl RX8 202 5 1 := ⟨(RX5, TX5, 2), rfl, by decide, by decide, Or.inr ⟨"MarkStacks", List.mem_of_getElem? (i := 243) (by decide +kernel)⟩⟩
theorem fl_X9_9 : MsFl RX9 9 9 0 := ⟨(RX9, TX9, 9), rfl, by decide, by decide, Or.inl (List.mem_of_getElem? (i := 179) (by decide +kernel))⟩
theorem fl_X9_15 : MsFl RX9 15 9 1 := ⟨(RX9, TX9, 9), rfl, by decide, by decide, Or.inl (List.mem_of_getElem? (i := 180) (by decide +kernel))⟩
theorem fl_X9_19 : MsFl RX9 19 9 7 := ⟨(RX9, TX9, 9), rfl, by decide, by decide, Or.inl (List.mem_of_getElem? (i := 189) (by decide +kernel))⟩
theorem fl_X9_22 : MsFl RX9 22 9 8 := ⟨(RX9, TX9, 9), rfl, by decide, by decide, Or.inl (List.mem_of_getElem? (i := 192) (by decide +kernel))⟩
theorem fl_X9_25 : MsFl RX9 25 9 2 := ⟨(RX9, TX9, 9), rfl, by decide, by decide, Or.inl (List.mem_of_getElem? (i := 182) (by decide +kernel))⟩
theorem fl_X9_28 : MsFl RX9 28 9 4 := ⟨(RX9, TX9, 9), rfl, by decide, by decide, Or.inl (List.mem_of_getElem? (i := 184) (by decide +kernel))⟩
theorem fl_X9_42 : MsFl RX9 42 9 3 := ⟨(RX9, TX9, 9), rfl, by decide, by decide, Or.inl (List.mem_of_getElem? (i := 183) (by decide +kernel))⟩
theorem fl_X9_45 : MsFl RX9 45 9 5 := ⟨(RX9, TX9, 9), rfl, by decide, by decide, Or.inl (List.mem_of_getElem? (i := 185) (by decide +kernel))⟩
theorem fl_X9_54 : MsFl RX9 54 9 6 := ⟨(RX9, TX9, 9), rfl, by decide, by decide, Or.inl (List.mem_of_getElem? (i := 188) (by decide +kernel))⟩
theorem fl_X12_9 : MsFl RX12 9 12 0 := ⟨(RX12, TX12, 41), rfl, by decide, by decide, Or.inl (List.mem_of_getElem? (i := 1644) (by decide +kernel))⟩
theorem fl_X12_13 : MsFl RX12 13 12 1 := ⟨(RX12, TX12, 41), rfl, by decide, by decide, Or.inl (List.mem_of_getElem? (i := 1645) (by decide +kernel))⟩
theorem fl_X12_16 : MsFl RX12 16 12 2 := ⟨(RX12, TX12, 41), rfl, by decide, by decide, Or.inl (List.mem_of_getElem? (i := 1646) (by decide +kernel))⟩
theorem fl_X12_19 : MsFl RX12 19 12 3 := ⟨(RX12, TX12, 41), rfl, by decide, by decide, Or.inl (List.mem_of_getElem? (i := 1647) (by decide +kernel))⟩
theorem fl_X12_22 : MsFl RX12 22 12 4 := ⟨(RX12, TX12, 41), rfl, by decide, by decide, Or.inl (List.mem_of_getElem? (i := 1648) (by decide +kernel))⟩
theorem fl_X12_25 : MsFl RX12 25 12 5 := ⟨(RX12, TX12, 41), rfl, by decide, by decide, Or.inl (List.mem_of_getElem? (i := 1649) (by decide +kernel))⟩
theorem fl_X12_28 : MsFl RX12 28 12 9 := ⟨(RX12, TX12, 41), rfl, by decide, by decide, Or.inl (List.mem_of_getElem? (i := 1653) (by decide +kernel))⟩
theorem fl_X12_31 : MsFl RX12 31 12 10 := ⟨(RX12, TX12, 41), rfl, by decide, by decide, Or.inl (List.mem_of_getElem? (i := 1654) (by decide +kernel))⟩
theorem fl_X12_34 : MsFl RX12 34 12 13 := ⟨(RX12, TX12, 41), rfl, by decide, by decide, Or.inl (List.mem_of_getElem? (i := 1657) (by decide +kernel))⟩
theorem fl_X12_37 : MsFl RX12 37 12 14 := ⟨(RX12, TX12, 41), rfl, by decide, by decide, Or.inl (List.mem_of_getElem? (i := 1658) (by decide +kernel))⟩
theorem fl_X12_40 : MsFl RX12 40 12 16 := ⟨(RX12, TX12, 41), rfl, by decide, by decide, Or.inl (List.mem_of_getElem? (i := 1660) (by decide +kernel))⟩
theorem fl_X12_46 : MsFl RX12 46 12 18 := ⟨(RX12, TX12, 41), rfl, by decide, by decide, Or.inl (List.mem_of_getElem? (i := 1662) (by decide +kernel))⟩
theorem fl_X12_50 : MsFl RX12 50 12 19 := ⟨(RX12, TX12, 41), rfl, by decide, by decide, Or.inl (List.mem_of_getElem? (i := 1663) (by decide +kernel))⟩
theorem fl_X12_53 : MsFl RX12 53 12 20 := ⟨(RX12, TX12, 41), rfl, by decide, by decide, Or.inl (List.mem_of_getElem? (i := 1664) (by decide +kernel))⟩
theorem fl_X12_56 : MsFl RX12 56 12 21 := ⟨(RX12, TX12, 41), rfl, by decide, by decide, Or.inl (List.mem_of_getElem? (i := 1665) (by decide +kernel))⟩
theorem fl_X12_59 : MsFl RX12 59 12 24 := ⟨(RX12, TX12, 41), rfl, by decide, by decide, Or.inl (List.mem_of_getElem? (i := 1668) (by decide +kernel))⟩
theorem fl_X12_62 : MsFl RX12 62 12 26 := ⟨(RX12, TX12, 41), rfl, by decide, by decide, Or.inl (List.mem_of_getElem? (i := 1670) (by decide +kernel))⟩
theorem fl_X12_65 : MsFl RX12 65 12 34 := ⟨(RX12, TX12, 41), rfl, by decide, by decide, Or.inl (List.mem_of_getElem? (i := 1678) (by decide +kernel))⟩
theorem fl_X12_81 : MsFl RX12 81 12 36 := ⟨(RX12, TX12, 41), rfl, by decide, by decide, Or.inl (List.mem_of_getElem? (i := 1680) (by decide +kernel))⟩
theorem fl_X12_97 : MsFl RX12 97 12 37 := ⟨(RX12, TX12, 41), rfl, by decide, by decide, Or.inl (List.mem_of_getElem? (i := 1681) (by decide +kernel))⟩
theorem fl_X12_100 : MsFl RX12 100 12 38 := ⟨(RX12, TX12, 41), rfl, by decide, by decide, Or.inl (List.mem_of_getElem? (i := 1682) (by decide +kernel))⟩
theorem fl_X12_103 : MsFl RX12 103 12 39 := ⟨(RX12, TX12, 41), rfl, by decide, by decide, Or.inl (List.mem_of_getElem? (i := 1683) (by decide +kernel))⟩
theorem fl_X12_107 : MsFl RX12 107 12 7 := ⟨(RX12, TX12, 41), rfl, by decide, by decide, Or.inl (List.mem_of_getElem? (i := 1651) (by decide +kernel))⟩
theorem fl_X12_132 : MsFl RX12 132 12 11 := ⟨(RX12, TX12, 41), rfl, by decide, by decide, Or.inl (List.mem_of_getElem? (i := 1655) (by decide +kernel))⟩
theorem fl_X12_138 : MsFl RX12 138 12 12 := ⟨(RX12, TX12, 41), rfl, by decide, by decide, Or.inl (List.mem_of_getElem? (i := 1656) (by decide +kernel))⟩
theorem fl_X12_155 : MsFl RX12 155 12 15 := ⟨(RX12, TX12, 41), rfl, by decide, by decide, Or.inl (List.mem_of_getElem? (i := 1659) (by decide +kernel))⟩
theorem fl_X12_168 : MsFl RX12 168 12 17 := ⟨(RX12, TX12, 41), rfl, by decide, by decide, Or.inl (List.mem_of_getElem? (i := 1661) (by decide +kernel))⟩
theorem fl_X12_189 : MsFl RX12 189 11 1 := ⟨(RX11, TX11, 6), rfl, by decide, by decide, Or.inr ⟨"MarkStacksModel", List.mem_of_getElem? (i := 1613) (by decide +kernel)⟩⟩
theorem fl_X12_192 : MsFl RX12 192 11 2 := ⟨(RX11, TX11, 6), rfl, by decide, by decide, Or.inr ⟨"MarkStacksModel", List.mem_of_getElem? (i := 1614) (by decide +kernel)⟩⟩
theorem fl_X12_195 : MsFl RX12 195 11 3 := ⟨(RX11, TX11, 6), rfl, by decide, by decide, Or.inr ⟨"MarkStacksModel", List.mem_of_getElem? (i := 1615) (by decide +kernel)⟩⟩
theorem fl_X12_198 : MsFl RX12 198 11 4 := ⟨(RX11, TX11, 6), rfl, by decide, by decide, Or.inr ⟨"MarkStacksModel", List.mem_of_getElem? (i := 1616) (by decide +kernel)⟩⟩
theorem fl_X12_201 : MsFl RX12 201 11 5 := ⟨(RX11, TX11, 6), rfl, by decide, by decide, Or.inr ⟨"MarkStacksModel", List.mem_of_getElem? (i := 1617) (by decide +kernel)⟩⟩
theorem fl_X12_204 : MsFl RX12 204 11 0 := ⟨(RX11, TX11, 6), rfl, by decide, by decide, Or.inr ⟨"MarkStacksModel", List.mem_of_getElem? (i := 1612) (by decide +kernel)⟩⟩
theorem fl_X12_290 : MsFl RX12 290 12 22 := ⟨(RX12, TX12, 41), rfl, by decide, by decide, Or.inl (List.mem_of_getElem? (i := 1666) (by decide +kernel))⟩
theorem fl_X12_293 : MsFl RX12 293 12 23 := ⟨(RX12, TX12, 41), rfl, by decide, by decide, Or.inl (List.mem_of_getElem? (i := 1667) (by decide +kernel))⟩
theorem fl_X12_340 : MsFl RX12 340 12 25 := ⟨(RX12, TX12, 41), rfl, by decide, by decide, Or.inl (List.mem_of_getElem? (i := 1669) (by decide +kernel))⟩
theorem fl_X12_349 : MsFl RX12 349 12 6 := ⟨(RX12, TX12, 41), rfl, by decide, by decide, Or.inl (List.mem_of_getElem? (i := 1650) (by decide +kernel))⟩
theorem fl_X12_356 : MsFl RX12 356 12 8 := ⟨(RX12, TX12, 41), rfl, by decide, by decide, Or.inl (List.mem_of_getElem? (i := 1652) (by decide +kernel))⟩
theorem fl_X12_360 : MsFl RX12 360 12 27 := ⟨(RX12, TX12, 41), rfl, by decide, by decide, Or.inl (List.mem_of_getElem? (i := 1671) (by decide +kernel))⟩
theorem fl_X12_363 : MsFl RX12 363 12 28 := ⟨(RX12, TX12, 41), rfl, by decide, by decide, Or.inl (List.mem_of_getElem? (i := 1672) (by decide +kernel))⟩
theorem fl_X12_369 : MsFl RX12 369 12 29 := ⟨(RX12, TX12, 41), rfl, by decide, by decide, Or.inl (List.mem_of_getElem? (i := 1673) (by decide +kernel))⟩
theorem fl_X12_372 : MsFl RX12 372 12 30 := ⟨(RX12, TX12, 41), rfl, by decide, by decide, Or.inl (List.mem_of_getElem? (i := 1674) (by decide +kernel))⟩
theorem fl_X12_375 : MsFl RX12 375 12 31 := ⟨(RX12, TX12, 41), rfl, by decide, by decide, Or.inl (List.mem_of_getElem? (i := 1675) (by decide +kernel))⟩
theorem fl_X12_384 : MsFl RX12 384 12 32 := ⟨(RX12, TX12, 41), rfl, by decide, by decide, Or.inl (List.mem_of_getElem? (i := 1676) (by decide +kernel))⟩
theorem fl_X12_387 : MsFl RX12 387 12 35 := ⟨(RX12, TX12, 41), rfl, by decide, by decide, Or.inl (List.mem_of_getElem? (i := 1679) (by decide +kernel))⟩
theorem fl_X12_393 : MsFl RX12 393 12 33 := ⟨(RX12, TX12, 41), rfl, by decide, by decide, Or.inl (List.mem_of_getElem? (i := 1677) (by decide +kernel))⟩
theorem fl_X12_502 : MsFl RX12 502 12 40 := ⟨(RX12, TX12, 41), rfl, by decide, by decide, Or.inl (List.mem_of_getElem? (i := 1684) (by decide +kernel))⟩
theorem kl_X10_97 : Cond.methodLink RX10 97 yX9_hasRoomFor ∈ lw_tbl := List.mem_of_getElem? (i := 590) (by decide +kernel)
theorem kl_X10_101 : Cond.methodLink RX10 101 yX9_append ∈ lw_tbl := List.mem_of_getElem? (i := 594) (by decide +kernel)
theorem kl_X10_107 : Cond.methodLink RX10 107 yX10_needLength ∈ lw_tbl := List.mem_of_getElem? (i := 683) (by decide +kernel)
theorem kl_X10_111 : Cond.methodLink RX10 111 yX8_readText ∈ lw_tbl := List.mem_of_getElem? (i := 753) (by decide +kernel)
theorem kl_X10_119 : Cond.methodLink RX10 119 yX6_takeOver ∈ lw_tbl := List.mem_of_getElem? (i := 969) (by decide +kernel)
theorem kl_X10_122 : Cond.methodLink RX10 122 yX2_forget ∈ lw_tbl := List.mem_of_getElem? (i := 671) (by decide +kernel)
theorem kl_X10_128 : Cond.methodLink RX10 128 yX10_needIn ∈ lw_tbl := List.mem_of_getElem? (i := 987) (by decide +kernel)
theorem kl_X10_132 : Cond.methodLink RX10 132 yX6_countKind ∈ lw_tbl := List.mem_of_getElem? (i := 1006) (by decide +kernel)
theorem kl_X10_135 : Cond.methodLink RX10 135 yX6_countSpare ∈ lw_tbl := List.mem_of_getElem? (i := 1010) (by decide +kernel)
theorem kl_X10_145 : Cond.methodLink RX10 145 yX10_needSign ∈ lw_tbl := List.mem_of_getElem? (i := 1021) (by decide +kernel)
theorem kl_X10_148 : Cond.methodLink RX10 148 yX6_told ∈ lw_tbl := List.mem_of_getElem? (i := 1025) (by decide +kernel)
theorem kl_X10_157 : Cond.methodLink RX10 157 yX6_countLinesWith ∈ lw_tbl := List.mem_of_getElem? (i := 1026) (by decide +kernel)
theorem kl_X10_160 : Cond.methodLink RX10 160 yX7_number ∈ lw_tbl := List.mem_of_getElem? (i := 1034) (by decide +kernel)
theorem kl_X10_170 : Cond.methodLink RX10 170 yX7_letterAt ∈ lw_tbl := List.mem_of_getElem? (i := 1046) (by decide +kernel)
theorem kl_X10_176 : Cond.methodLink RX10 176 yX7_part ∈ lw_tbl := List.mem_of_getElem? (i := 1057) (by decide +kernel)
theorem kl_X10_179 : Cond.methodLink RX10 179 yX6_findPair ∈ lw_tbl := List.mem_of_getElem? (i := 1069) (by decide +kernel)
theorem kl_X10_183 : Cond.methodLink RX10 183 yX6_countExpandedWith ∈ lw_tbl := List.mem_of_getElem? (i := 1077) (by decide +kernel)
theorem kl_X10_186 : Cond.methodLink RX10 186 yX5_clear ∈ lw_tbl := List.mem_of_getElem? (i := 1088) (by decide +kernel)
theorem kl_X10_189 : Cond.methodLink RX10 189 yX5_add ∈ lw_tbl := List.mem_of_getElem? (i := 1089) (by decide +kernel)
theorem kl_X10_192 : Cond.methodLink RX10 192 yX1_derive ∈ lw_tbl := List.mem_of_getElem? (i := 1090) (by decide +kernel)
theorem kl_X10_199 : Cond.methodLink RX10 199 yX5_get ∈ lw_tbl := List.mem_of_getElem? (i := 606) (by decide +kernel)
theorem kl_X10_202 : Cond.methodLink RX10 202 yX10_needLine ∈ lw_tbl := List.mem_of_getElem? (i := 1142) (by decide +kernel)
theorem kl_X10_205 : Cond.methodLink RX10 205 yX6_lineAt ∈ lw_tbl := List.mem_of_getElem? (i := 1146) (by decide +kernel)
theorem kl_X10_215 : Cond.methodLink RX10 215 yX1_countSwaps ∈ lw_tbl := List.mem_of_getElem? (i := 1147) (by decide +kernel)
theorem kl_X10_221 : Cond.methodLink RX10 221 yX1_penOf ∈ lw_tbl := List.mem_of_getElem? (i := 1159) (by decide +kernel)
theorem kl_X10_224 : Cond.methodLink RX10 224 yX10_greatestCrown ∈ lw_tbl := List.mem_of_getElem? (i := 1167) (by decide +kernel)
theorem kl_X10_227 : Cond.methodLink RX10 227 yX10_leastFoot ∈ lw_tbl := List.mem_of_getElem? (i := 1205) (by decide +kernel)
theorem kl_X10_230 : Cond.methodLink RX10 230 yX10_countClashes ∈ lw_tbl := List.mem_of_getElem? (i := 1210) (by decide +kernel)
theorem kl_X10_233 : Cond.methodLink RX10 233 yX10_rowOf ∈ lw_tbl := List.mem_of_getElem? (i := 1234) (by decide +kernel)
theorem kl_X10_237 : Cond.methodLink RX10 237 yX5_firstUnlike ∈ lw_tbl := List.mem_of_getElem? (i := 1245) (by decide +kernel)
theorem kl_X10_241 : Cond.methodLink RX10 241 yX6_clusterAt ∈ lw_tbl := List.mem_of_getElem? (i := 1256) (by decide +kernel)
theorem kl_X10_245 : Cond.methodLink RX10 245 yX10_needCluster ∈ lw_tbl := List.mem_of_getElem? (i := 1268) (by decide +kernel)
theorem kl_X10_248 : Cond.methodLink RX10 248 yX0_lay ∈ lw_tbl := List.mem_of_getElem? (i := 1171) (by decide +kernel)
theorem kl_X10_255 : Cond.methodLink RX10 255 yX1_marksIn ∈ lw_tbl := List.mem_of_getElem? (i := 1272) (by decide +kernel)
theorem kl_X10_290 : Cond.methodLink RX10 290 yX1_countOrders ∈ lw_tbl := List.mem_of_getElem? (i := 1291) (by decide +kernel)
theorem kl_X10_294 : Cond.methodLink RX10 294 yX10_clashesWithNext ∈ lw_tbl := List.mem_of_getElem? (i := 1214) (by decide +kernel)
theorem kl_X10_297 : Cond.methodLink RX10 297 yX10_needBoth ∈ lw_tbl := List.mem_of_getElem? (i := 1316) (by decide +kernel)
theorem kl_X10_300 : Cond.methodLink RX10 300 yX1_isFoundAt ∈ lw_tbl := List.mem_of_getElem? (i := 1327) (by decide +kernel)
theorem kl_X10_306 : Cond.methodLink RX10 306 yX6_kindOf ∈ lw_tbl := List.mem_of_getElem? (i := 1357) (by decide +kernel)
theorem kl_X10_309 : Cond.methodLink RX10 309 yX6_mayHaveClass ∈ lw_tbl := List.mem_of_getElem? (i := 1365) (by decide +kernel)
theorem kl_X10_313 : Cond.methodLink RX10 313 yX2_record ∈ lw_tbl := List.mem_of_getElem? (i := 1391) (by decide +kernel)
theorem kl_X10_316 : Cond.methodLink RX10 316 yX10_allowIn ∈ lw_tbl := List.mem_of_getElem? (i := 1404) (by decide +kernel)
theorem kl_X10_319 : Cond.methodLink RX10 319 yX5_insert ∈ lw_tbl := List.mem_of_getElem? (i := 1408) (by decide +kernel)
theorem kl_X10_322 : Cond.methodLink RX10 322 yX5_cut ∈ lw_tbl := List.mem_of_getElem? (i := 1420) (by decide +kernel)
theorem kl_X10_325 : Cond.methodLink RX10 325 yX6_classOf ∈ lw_tbl := List.mem_of_getElem? (i := 1431) (by decide +kernel)
theorem kl_X10_328 : Cond.methodLink RX10 328 yX1_marksUpTo ∈ lw_tbl := List.mem_of_getElem? (i := 1432) (by decide +kernel)
theorem kl_X10_331 : Cond.methodLink RX10 331 yX5_takeOver ∈ lw_tbl := List.mem_of_getElem? (i := 1436) (by decide +kernel)
theorem kl_X10_334 : Cond.methodLink RX10 334 yX1_firstMark ∈ lw_tbl := List.mem_of_getElem? (i := 1437) (by decide +kernel)
theorem kl_X10_337 : Cond.methodLink RX10 337 yX1_marksOfSide ∈ lw_tbl := List.mem_of_getElem? (i := 1445) (by decide +kernel)
theorem kl_X10_340 : Cond.methodLink RX10 340 yX1_writeWithout ∈ lw_tbl := List.mem_of_getElem? (i := 1453) (by decide +kernel)
theorem kl_X10_344 : Cond.methodLink RX10 344 yX10_rewrite ∈ lw_tbl := List.mem_of_getElem? (i := 1464) (by decide +kernel)
theorem kl_X10_347 : Cond.methodLink RX10 347 yX5_addAll ∈ lw_tbl := List.mem_of_getElem? (i := 1482) (by decide +kernel)
theorem kl_X10_356 : Cond.methodLink RX10 356 yX10_writeName ∈ lw_tbl := List.mem_of_getElem? (i := 1504) (by decide +kernel)
theorem kl_X10_361 : Cond.methodLink RX10 361 yX2_takeBack ∈ lw_tbl := List.mem_of_getElem? (i := 618) (by decide +kernel)
theorem kl_X10_365 : Cond.methodLink RX10 365 yX3_keep ∈ lw_tbl := List.mem_of_getElem? (i := 660) (by decide +kernel)
theorem kl_X10_368 : Cond.methodLink RX10 368 yX3_giveBack ∈ lw_tbl := List.mem_of_getElem? (i := 670) (by decide +kernel)
theorem kl_X10_371 : Cond.methodLink RX10 371 yX4_readQuery ∈ lw_tbl := List.mem_of_getElem? (i := 1515) (by decide +kernel)
theorem kl_X10_395 : Cond.methodLink RX10 395 yX6_widthOf ∈ lw_tbl := List.mem_of_getElem? (i := 1218) (by decide +kernel)
theorem kl_X10_398 : Cond.methodLink RX10 398 yX0_overlaps ∈ lw_tbl := List.mem_of_getElem? (i := 1219) (by decide +kernel)
theorem kl_X0_41 : Cond.methodLink RX0 41 yX5_get ∈ lw_tbl := List.mem_of_getElem? (i := 1175) (by decide +kernel)
theorem kl_X0_45 : Cond.methodLink RX0 45 yX6_widthOf ∈ lw_tbl := List.mem_of_getElem? (i := 1176) (by decide +kernel)
theorem kl_X0_50 : Cond.methodLink RX0 50 yX0_heightOf ∈ lw_tbl := List.mem_of_getElem? (i := 1177) (by decide +kernel)
theorem kl_X0_53 : Cond.methodLink RX0 53 yX0_begin ∈ lw_tbl := List.mem_of_getElem? (i := 1182) (by decide +kernel)
theorem kl_X0_57 : Cond.methodLink RX0 57 yX1_firstMark ∈ lw_tbl := List.mem_of_getElem? (i := 1187) (by decide +kernel)
theorem kl_X0_60 : Cond.methodLink RX0 60 yX1_endOf ∈ lw_tbl := List.mem_of_getElem? (i := 1188) (by decide +kernel)
theorem kl_X0_66 : Cond.methodLink RX0 66 yX0_layMark ∈ lw_tbl := List.mem_of_getElem? (i := 1189) (by decide +kernel)
theorem kl_X0_91 : Cond.methodLink RX0 91 yX5_clear ∈ lw_tbl := List.mem_of_getElem? (i := 1186) (by decide +kernel)
theorem kl_X0_100 : Cond.methodLink RX0 100 yX6_told ∈ lw_tbl := List.mem_of_getElem? (i := 1181) (by decide +kernel)
theorem kl_X0_112 : Cond.methodLink RX0 112 yX0_anchorFor ∈ lw_tbl := List.mem_of_getElem? (i := 1193) (by decide +kernel)
theorem kl_X0_121 : Cond.methodLink RX0 121 yX0_addBox ∈ lw_tbl := List.mem_of_getElem? (i := 1197) (by decide +kernel)
theorem kl_X0_131 : Cond.methodLink RX0 131 yX5_add ∈ lw_tbl := List.mem_of_getElem? (i := 1201) (by decide +kernel)
theorem kl_X0_137 : Cond.methodLink RX0 137 yX0_overlapsAt ∈ lw_tbl := List.mem_of_getElem? (i := 1223) (by decide +kernel)
theorem kl_X1_39 : Cond.methodLink RX1 39 yX1_expandAll ∈ lw_tbl := List.mem_of_getElem? (i := 1094) (by decide +kernel)
theorem kl_X1_43 : Cond.methodLink RX1 43 yX5_takeOver ∈ lw_tbl := List.mem_of_getElem? (i := 1102) (by decide +kernel)
theorem kl_X1_50 : Cond.methodLink RX1 50 yX1_sinkMark ∈ lw_tbl := List.mem_of_getElem? (i := 1103) (by decide +kernel)
theorem kl_X1_53 : Cond.methodLink RX1 53 yX1_findClusters ∈ lw_tbl := List.mem_of_getElem? (i := 1113) (by decide +kernel)
theorem kl_X1_56 : Cond.methodLink RX1 56 yX5_clear ∈ lw_tbl := List.mem_of_getElem? (i := 1098) (by decide +kernel)
theorem kl_X1_59 : Cond.methodLink RX1 59 yX1_composeCluster ∈ lw_tbl := List.mem_of_getElem? (i := 1118) (by decide +kernel)
theorem kl_X1_63 : Cond.methodLink RX1 63 yX5_add ∈ lw_tbl := List.mem_of_getElem? (i := 1117) (by decide +kernel)
theorem kl_X1_66 : Cond.methodLink RX1 66 yX5_get ∈ lw_tbl := List.mem_of_getElem? (i := 1099) (by decide +kernel)
theorem kl_X1_70 : Cond.methodLink RX1 70 yX6_told ∈ lw_tbl := List.mem_of_getElem? (i := 1100) (by decide +kernel)
theorem kl_X1_81 : Cond.methodLink RX1 81 yX5_addAll ∈ lw_tbl := List.mem_of_getElem? (i := 1101) (by decide +kernel)
theorem kl_X1_84 : Cond.methodLink RX1 84 yX6_kindOf ∈ lw_tbl := List.mem_of_getElem? (i := 1107) (by decide +kernel)
theorem kl_X1_87 : Cond.methodLink RX1 87 yX6_classOf ∈ lw_tbl := List.mem_of_getElem? (i := 1108) (by decide +kernel)
theorem kl_X1_90 : Cond.methodLink RX1 90 yX5_put ∈ lw_tbl := List.mem_of_getElem? (i := 1109) (by decide +kernel)
theorem kl_X1_93 : Cond.methodLink RX1 93 yX1_firstMark ∈ lw_tbl := List.mem_of_getElem? (i := 1122) (by decide +kernel)
theorem kl_X1_96 : Cond.methodLink RX1 96 yX1_endOf ∈ lw_tbl := List.mem_of_getElem? (i := 1126) (by decide +kernel)
theorem kl_X1_99 : Cond.methodLink RX1 99 yX6_findMade ∈ lw_tbl := List.mem_of_getElem? (i := 1130) (by decide +kernel)
theorem kl_X1_103 : Cond.methodLink RX1 103 yX6_widthOf ∈ lw_tbl := List.mem_of_getElem? (i := 1163) (by decide +kernel)
theorem kl_X1_106 : Cond.methodLink RX1 106 yX1_countPassed ∈ lw_tbl := List.mem_of_getElem? (i := 1151) (by decide +kernel)
theorem kl_X1_109 : Cond.methodLink RX1 109 yX1_classWith ∈ lw_tbl := List.mem_of_getElem? (i := 1155) (by decide +kernel)
theorem kl_X1_115 : Cond.methodLink RX1 115 yX1_isOfSide ∈ lw_tbl := List.mem_of_getElem? (i := 1449) (by decide +kernel)
theorem kl_X1_119 : Cond.methodLink RX1 119 yX1_hasSameSigns ∈ lw_tbl := List.mem_of_getElem? (i := 1331) (by decide +kernel)
theorem kl_X2_25 : Cond.methodLink RX2 25 yX2_memoryAt ∈ lw_tbl := List.mem_of_getElem? (i := 622) (by decide +kernel)
theorem kl_X2_29 : Cond.methodLink RX2 29 yX3_keep ∈ lw_tbl := List.mem_of_getElem? (i := 1395) (by decide +kernel)
theorem kl_X2_39 : Cond.methodLink RX2 39 yX3_giveBack ∈ lw_tbl := List.mem_of_getElem? (i := 626) (by decide +kernel)
theorem kl_X3_31 : Cond.methodLink RX3 31 yX6_lineAt ∈ lw_tbl := List.mem_of_getElem? (i := 630) (by decide +kernel)
theorem kl_X3_37 : Cond.methodLink RX3 37 yX5_takeOver ∈ lw_tbl := List.mem_of_getElem? (i := 634) (by decide +kernel)
theorem kl_X3_41 : Cond.methodLink RX3 41 yX5_clear ∈ lw_tbl := List.mem_of_getElem? (i := 664) (by decide +kernel)
theorem kl_X3_47 : Cond.methodLink RX3 47 yX6_told ∈ lw_tbl := List.mem_of_getElem? (i := 651) (by decide +kernel)
theorem kl_X3_56 : Cond.methodLink RX3 56 yX5_add ∈ lw_tbl := List.mem_of_getElem? (i := 665) (by decide +kernel)
theorem kl_X3_64 : Cond.methodLink RX3 64 yX5_get ∈ lw_tbl := List.mem_of_getElem? (i := 655) (by decide +kernel)
theorem kl_X4_37 : Cond.methodLink RX4 37 yX4_tellLine ∈ lw_tbl := List.mem_of_getElem? (i := 1519) (by decide +kernel)
theorem kl_X4_40 : Cond.methodLink RX4 40 yX9_begin ∈ lw_tbl := List.mem_of_getElem? (i := 1528) (by decide +kernel)
theorem kl_X4_47 : Cond.methodLink RX4 47 yX9_isWord ∈ lw_tbl := List.mem_of_getElem? (i := 1530) (by decide +kernel)
theorem kl_X4_53 : Cond.methodLink RX4 53 yX9_fail ∈ lw_tbl := List.mem_of_getElem? (i := 1532) (by decide +kernel)
theorem kl_X4_56 : Cond.methodLink RX4 56 yX9_advance ∈ lw_tbl := List.mem_of_getElem? (i := 1533) (by decide +kernel)
theorem kl_X4_59 : Cond.methodLink RX4 59 yX4_readTest ∈ lw_tbl := List.mem_of_getElem? (i := 1534) (by decide +kernel)
theorem kl_X4_63 : Cond.methodLink RX4 63 yX9_takeEnd ∈ lw_tbl := List.mem_of_getElem? (i := 1584) (by decide +kernel)
theorem kl_X4_66 : Cond.methodLink RX4 66 yJ13_bitCount_95d88 ∈ lw_tbl := List.mem_of_getElem? (i := 1585) (by decide +kernel)
theorem kl_X4_72 : Cond.methodLink RX4 72 yJ13_numberOfTrailingZeros_95d88 ∈ lw_tbl := List.mem_of_getElem? (i := 1591) (by decide +kernel)
theorem kl_X4_81 : Cond.methodLink RX4 81 yX6_lineAt ∈ lw_tbl := List.mem_of_getElem? (i := 1523) (by decide +kernel)
theorem kl_X4_85 : Cond.methodLink RX4 85 yX5_takeOver ∈ lw_tbl := List.mem_of_getElem? (i := 1524) (by decide +kernel)
theorem kl_X4_89 : Cond.methodLink RX4 89 yX5_clear ∈ lw_tbl := List.mem_of_getElem? (i := 1525) (by decide +kernel)
theorem kl_X4_95 : Cond.methodLink RX4 95 yX6_clusterAt ∈ lw_tbl := List.mem_of_getElem? (i := 1526) (by decide +kernel)
theorem kl_X4_99 : Cond.methodLink RX4 99 yX5_add ∈ lw_tbl := List.mem_of_getElem? (i := 1527) (by decide +kernel)
theorem kl_X4_102 : Cond.methodLink RX4 102 yX4_readConjunction ∈ lw_tbl := List.mem_of_getElem? (i := 1538) (by decide +kernel)
theorem kl_X4_107 : Cond.methodLink RX4 107 yX4_readFactor ∈ lw_tbl := List.mem_of_getElem? (i := 1542) (by decide +kernel)
theorem kl_X4_114 : Cond.methodLink RX4 114 yX9_isSymbol ∈ lw_tbl := List.mem_of_getElem? (i := 1547) (by decide +kernel)
theorem kl_X4_118 : Cond.methodLink RX4 118 yX4_readComparison ∈ lw_tbl := List.mem_of_getElem? (i := 1548) (by decide +kernel)
theorem kl_X4_122 : Cond.methodLink RX4 122 yX4_allPlaces ∈ lw_tbl := List.mem_of_getElem? (i := 1576) (by decide +kernel)
theorem kl_X4_127 : Cond.methodLink RX4 127 yX9_takeSymbol ∈ lw_tbl := List.mem_of_getElem? (i := 1581) (by decide +kernel)
theorem kl_X4_131 : Cond.methodLink RX4 131 yX4_readValue ∈ lw_tbl := List.mem_of_getElem? (i := 1552) (by decide +kernel)
theorem kl_X4_134 : Cond.methodLink RX4 134 yX5_get ∈ lw_tbl := List.mem_of_getElem? (i := 1571) (by decide +kernel)
theorem kl_X4_138 : Cond.methodLink RX4 138 yJ6_compare_7cf53 ∈ lw_tbl := List.mem_of_getElem? (i := 1573) (by decide +kernel)
theorem kl_X4_147 : Cond.methodLink RX4 147 yX9_takeNumber ∈ lw_tbl := List.mem_of_getElem? (i := 1556) (by decide +kernel)
theorem kl_X4_150 : Cond.methodLink RX4 150 yX4_propertyAhead ∈ lw_tbl := List.mem_of_getElem? (i := 1557) (by decide +kernel)
theorem kl_X4_154 : Cond.methodLink RX4 154 yX4_valueAt ∈ lw_tbl := List.mem_of_getElem? (i := 1567) (by decide +kernel)
theorem kl_X4_168 : Cond.methodLink RX4 168 yX6_told ∈ lw_tbl := List.mem_of_getElem? (i := 1572) (by decide +kernel)
theorem kl_X5_25 : Cond.methodLink RX5 25 yX5_get ∈ lw_tbl := List.mem_of_getElem? (i := 646) (by decide +kernel)
theorem kl_X5_29 : Cond.methodLink RX5 29 yX5_add ∈ lw_tbl := List.mem_of_getElem? (i := 647) (by decide +kernel)
theorem kl_X5_33 : Cond.methodLink RX5 33 yX5_clear ∈ lw_tbl := List.mem_of_getElem? (i := 638) (by decide +kernel)
theorem kl_X5_36 : Cond.methodLink RX5 36 yX5_addAll ∈ lw_tbl := List.mem_of_getElem? (i := 642) (by decide +kernel)
theorem kl_X5_40 : Cond.methodLink RX5 40 yX5_put ∈ lw_tbl := List.mem_of_getElem? (i := 1412) (by decide +kernel)
theorem kl_X6_45 : Cond.methodLink RX6 45 yX6_lineAt ∈ lw_tbl := List.mem_of_getElem? (i := 761) (by decide +kernel)
theorem kl_X6_49 : Cond.methodLink RX6 49 yX5_clear ∈ lw_tbl := List.mem_of_getElem? (i := 762) (by decide +kernel)
theorem kl_X6_52 : Cond.methodLink RX6 52 yX6_told ∈ lw_tbl := List.mem_of_getElem? (i := 883) (by decide +kernel)
theorem kl_X6_69 : Cond.methodLink RX6 69 yX6_kindOf ∈ lw_tbl := List.mem_of_getElem? (i := 926) (by decide +kernel)
theorem kl_X6_76 : Cond.methodLink RX6 76 yX5_contains ∈ lw_tbl := List.mem_of_getElem? (i := 1030) (by decide +kernel)
theorem kl_X6_89 : Cond.methodLink RX6 89 yX6_findPair ∈ lw_tbl := List.mem_of_getElem? (i := 1134) (by decide +kernel)
theorem kl_X6_93 : Cond.methodLink RX6 93 yX6_classOf ∈ lw_tbl := List.mem_of_getElem? (i := 930) (by decide +kernel)
theorem kl_X6_99 : Cond.methodLink RX6 99 yX6_sideOfClass ∈ lw_tbl := List.mem_of_getElem? (i := 1369) (by decide +kernel)
theorem kl_X6_105 : Cond.methodLink RX6 105 yX5_get ∈ lw_tbl := List.mem_of_getElem? (i := 1260) (by decide +kernel)
theorem kl_X6_108 : Cond.methodLink RX6 108 yX7_takeOver ∈ lw_tbl := List.mem_of_getElem? (i := 973) (by decide +kernel)
theorem kl_X6_112 : Cond.methodLink RX6 112 yX5_takeOver ∈ lw_tbl := List.mem_of_getElem? (i := 978) (by decide +kernel)
theorem kl_X7_61 : Cond.methodLink RX7 61 yX5_clear ∈ lw_tbl := List.mem_of_getElem? (i := 888) (by decide +kernel)
theorem kl_X7_64 : Cond.methodLink RX7 64 yX5_add ∈ lw_tbl := List.mem_of_getElem? (i := 898) (by decide +kernel)
theorem kl_X7_70 : Cond.methodLink RX7 70 yX5_get ∈ lw_tbl := List.mem_of_getElem? (i := 1061) (by decide +kernel)
theorem kl_X7_74 : Cond.methodLink RX7 74 yX5_takeOver ∈ lw_tbl := List.mem_of_getElem? (i := 977) (by decide +kernel)
theorem kl_X8_22 : Cond.methodLink RX8 22 yX6_empty ∈ lw_tbl := List.mem_of_getElem? (i := 757) (by decide +kernel)
theorem kl_X8_25 : Cond.methodLink RX8 25 yX9_begin ∈ lw_tbl := List.mem_of_getElem? (i := 763) (by decide +kernel)
theorem kl_X8_31 : Cond.methodLink RX8 31 yX8_isSignAhead ∈ lw_tbl := List.mem_of_getElem? (i := 788) (by decide +kernel)
theorem kl_X8_37 : Cond.methodLink RX8 37 yX9_isWord ∈ lw_tbl := List.mem_of_getElem? (i := 793) (by decide +kernel)
theorem kl_X8_41 : Cond.methodLink RX8 41 yX8_readBase ∈ lw_tbl := List.mem_of_getElem? (i := 847) (by decide +kernel)
theorem kl_X8_46 : Cond.methodLink RX8 46 yX8_readMark ∈ lw_tbl := List.mem_of_getElem? (i := 911) (by decide +kernel)
theorem kl_X8_49 : Cond.methodLink RX8 49 yX8_readPair ∈ lw_tbl := List.mem_of_getElem? (i := 934) (by decide +kernel)
theorem kl_X8_52 : Cond.methodLink RX8 52 yX9_fail ∈ lw_tbl := List.mem_of_getElem? (i := 875) (by decide +kernel)
theorem kl_X8_57 : Cond.methodLink RX8 57 yX8_readLine ∈ lw_tbl := List.mem_of_getElem? (i := 958) (by decide +kernel)
theorem kl_X8_62 : Cond.methodLink RX8 62 yX9_advance ∈ lw_tbl := List.mem_of_getElem? (i := 855) (by decide +kernel)
theorem kl_X8_69 : Cond.methodLink RX8 69 yX9_takeNumber ∈ lw_tbl := List.mem_of_getElem? (i := 889) (by decide +kernel)
theorem kl_X8_76 : Cond.methodLink RX8 76 yX9_takeSymbol ∈ lw_tbl := List.mem_of_getElem? (i := 903) (by decide +kernel)
theorem kl_X8_80 : Cond.methodLink RX8 80 yX9_takeEnd ∈ lw_tbl := List.mem_of_getElem? (i := 965) (by decide +kernel)
theorem kl_X8_91 : Cond.methodLink RX8 91 yX6_told ∈ lw_tbl := List.mem_of_getElem? (i := 856) (by decide +kernel)
theorem kl_X8_95 : Cond.methodLink RX8 95 yX8_takeName ∈ lw_tbl := List.mem_of_getElem? (i := 857) (by decide +kernel)
theorem kl_X8_99 : Cond.methodLink RX8 99 yX7_begin ∈ lw_tbl := List.mem_of_getElem? (i := 884) (by decide +kernel)
theorem kl_X8_104 : Cond.methodLink RX8 104 yX9_packedName ∈ lw_tbl := List.mem_of_getElem? (i := 861) (by decide +kernel)
theorem kl_X8_107 : Cond.methodLink RX8 107 yX9_isName ∈ lw_tbl := List.mem_of_getElem? (i := 865) (by decide +kernel)
theorem kl_X8_110 : Cond.methodLink RX8 110 yX6_findName ∈ lw_tbl := List.mem_of_getElem? (i := 879) (by decide +kernel)
theorem kl_X8_114 : Cond.methodLink RX8 114 yX8_beginSign ∈ lw_tbl := List.mem_of_getElem? (i := 851) (by decide +kernel)
theorem kl_X8_129 : Cond.methodLink RX8 129 yX7_addPart ∈ lw_tbl := List.mem_of_getElem? (i := 894) (by decide +kernel)
theorem kl_X8_132 : Cond.methodLink RX8 132 yX8_endSign ∈ lw_tbl := List.mem_of_getElem? (i := 899) (by decide +kernel)
theorem kl_X8_138 : Cond.methodLink RX8 138 yX8_takeSide ∈ lw_tbl := List.mem_of_getElem? (i := 915) (by decide +kernel)
theorem kl_X8_153 : Cond.methodLink RX8 153 yX6_sideOfClass ∈ lw_tbl := List.mem_of_getElem? (i := 922) (by decide +kernel)
theorem kl_X8_156 : Cond.methodLink RX8 156 yX8_takeFirst ∈ lw_tbl := List.mem_of_getElem? (i := 938) (by decide +kernel)
theorem kl_X8_162 : Cond.methodLink RX8 162 yX8_takeSecond ∈ lw_tbl := List.mem_of_getElem? (i := 947) (by decide +kernel)
theorem kl_X8_172 : Cond.methodLink RX8 172 yX5_takeOver ∈ lw_tbl := List.mem_of_getElem? (i := 955) (by decide +kernel)
theorem kl_X8_183 : Cond.methodLink RX8 183 yX8_findSign ∈ lw_tbl := List.mem_of_getElem? (i := 942) (by decide +kernel)
theorem kl_X8_186 : Cond.methodLink RX8 186 yX6_kindOf ∈ lw_tbl := List.mem_of_getElem? (i := 946) (by decide +kernel)
theorem kl_X8_192 : Cond.methodLink RX8 192 yX6_findPair ∈ lw_tbl := List.mem_of_getElem? (i := 951) (by decide +kernel)
theorem kl_X8_195 : Cond.methodLink RX8 195 yX6_lineAt ∈ lw_tbl := List.mem_of_getElem? (i := 962) (by decide +kernel)
theorem kl_X8_205 : Cond.methodLink RX8 205 yX5_add ∈ lw_tbl := List.mem_of_getElem? (i := 963) (by decide +kernel)
theorem kl_X9_31 : Cond.methodLink RX9 31 yX9_advance ∈ lw_tbl := List.mem_of_getElem? (i := 767) (by decide +kernel)
theorem kl_X9_34 : Cond.methodLink RX9 34 yX9_byteAt ∈ lw_tbl := List.mem_of_getElem? (i := 771) (by decide +kernel)
theorem kl_X9_38 : Cond.methodLink RX9 38 yX9_isSeparator ∈ lw_tbl := List.mem_of_getElem? (i := 775) (by decide +kernel)
theorem kl_X9_48 : Cond.methodLink RX9 48 yX9_isLetter ∈ lw_tbl := List.mem_of_getElem? (i := 778) (by decide +kernel)
theorem kl_X9_51 : Cond.methodLink RX9 51 yX9_isDigit ∈ lw_tbl := List.mem_of_getElem? (i := 781) (by decide +kernel)
theorem kl_X9_64 : Cond.methodLink RX9 64 yJ0_length_8abf5 ∈ lw_tbl := List.mem_of_getElem? (i := 797) (by decide +kernel)
theorem kl_X9_70 : Cond.methodLink RX9 70 yJ0_charAt_5068e ∈ lw_tbl := List.mem_of_getElem? (i := 807) (by decide +kernel)
theorem kl_X9_76 : Cond.methodLink RX9 76 yX9_isWord ∈ lw_tbl := List.mem_of_getElem? (i := 870) (by decide +kernel)
theorem kl_X9_88 : Cond.methodLink RX9 88 yX9_isSymbol ∈ lw_tbl := List.mem_of_getElem? (i := 907) (by decide +kernel)
theorem kl_X9_92 : Cond.methodLink RX9 92 yX9_fail ∈ lw_tbl := List.mem_of_getElem? (i := 893) (by decide +kernel)
theorem kl_X12_110 : Cond.methodLink RX12 110 yX12_inRange ∈ lw_tbl := List.mem_of_getElem? (i := 1808) (by decide +kernel)
theorem kl_X12_114 : Cond.methodLink RX12 114 yX12_of ∈ lw_tbl := List.mem_of_getElem? (i := 1785) (by decide +kernel)
theorem kl_X12_118 : Cond.methodLink RX12 118 yX12_isLine ∈ lw_tbl := List.mem_of_getElem? (i := 1873) (by decide +kernel)
theorem kl_X12_122 : Cond.methodLink RX12 122 yX12_isSign ∈ lw_tbl := List.mem_of_getElem? (i := 1804) (by decide +kernel)
theorem kl_X12_125 : Cond.methodLink RX12 125 yX12_parts ∈ lw_tbl := List.mem_of_getElem? (i := 1812) (by decide +kernel)
theorem kl_X12_128 : Cond.methodLink RX12 128 yX12_isOfKind ∈ lw_tbl := List.mem_of_getElem? (i := 1781) (by decide +kernel)
theorem kl_X12_135 : Cond.methodLink RX12 135 yX12_isMark ∈ lw_tbl := List.mem_of_getElem? (i := 1857) (by decide +kernel)
theorem kl_X12_141 : Cond.methodLink RX12 141 yX12_expand ∈ lw_tbl := List.mem_of_getElem? (i := 1830) (by decide +kernel)
theorem kl_X12_145 : Cond.methodLink RX12 145 yX12_add ∈ lw_tbl := List.mem_of_getElem? (i := 1853) (by decide +kernel)
theorem kl_X12_149 : Cond.methodLink RX12 149 yX12_spot ∈ lw_tbl := List.mem_of_getElem? (i := 1819) (by decide +kernel)
theorem kl_X12_152 : Cond.methodLink RX12 152 yX12_addExpanded ∈ lw_tbl := List.mem_of_getElem? (i := 1849) (by decide +kernel)
theorem kl_X12_158 : Cond.methodLink RX12 158 yX12_findPair ∈ lw_tbl := List.mem_of_getElem? (i := 1838) (by decide +kernel)
theorem kl_X12_162 : Cond.methodLink RX12 162 yX12_layDecomposed ∈ lw_tbl := List.mem_of_getElem? (i := 1881) (by decide +kernel)
theorem kl_X12_165 : Cond.methodLink RX12 165 yX12_layComposed ∈ lw_tbl := List.mem_of_getElem? (i := 1861) (by decide +kernel)
theorem kl_X12_171 : Cond.methodLink RX12 171 yX12_baseOf ∈ lw_tbl := List.mem_of_getElem? (i := 1897) (by decide +kernel)
theorem kl_X12_174 : Cond.methodLink RX12 174 yX12_firstMark ∈ lw_tbl := List.mem_of_getElem? (i := 1913) (by decide +kernel)
theorem kl_X12_177 : Cond.methodLink RX12 177 yX12_ofBase ∈ lw_tbl := List.mem_of_getElem? (i := 1893) (by decide +kernel)
theorem kl_X12_180 : Cond.methodLink RX12 180 yX12_layClusters ∈ lw_tbl := List.mem_of_getElem? (i := 1877) (by decide +kernel)
theorem kl_X12_183 : Cond.methodLink RX12 183 yX12_isCluster ∈ lw_tbl := List.mem_of_getElem? (i := 1976) (by decide +kernel)
theorem kl_X12_186 : Cond.methodLink RX12 186 yX12_marksOf ∈ lw_tbl := List.mem_of_getElem? (i := 1909) (by decide +kernel)
theorem kl_X12_215 : Cond.methodLink RX12 215 yX12_layBoxes ∈ lw_tbl := List.mem_of_getElem? (i := 1905) (by decide +kernel)
theorem kl_X12_219 : Cond.methodLink RX12 219 yX12_doOverlap ∈ lw_tbl := List.mem_of_getElem? (i := 1931) (by decide +kernel)
theorem kl_X12_223 : Cond.methodLink RX12 223 yX12_manyOf ∈ lw_tbl := List.mem_of_getElem? (i := 1777) (by decide +kernel)
theorem kl_X12_226 : Cond.methodLink RX12 226 yX12_spares ∈ lw_tbl := List.mem_of_getElem? (i := 1788) (by decide +kernel)
theorem kl_X12_230 : Cond.methodLink RX12 230 yX12_raise ∈ lw_tbl := List.mem_of_getElem? (i := 1792) (by decide +kernel)
theorem kl_X12_233 : Cond.methodLink RX12 233 yX12_noSign ∈ lw_tbl := List.mem_of_getElem? (i := 1800) (by decide +kernel)
theorem kl_X12_238 : Cond.methodLink RX12 238 yX12_linesWith ∈ lw_tbl := List.mem_of_getElem? (i := 1815) (by decide +kernel)
theorem kl_X12_241 : Cond.methodLink RX12 241 yX12_penOf ∈ lw_tbl := List.mem_of_getElem? (i := 1889) (by decide +kernel)
theorem kl_X12_244 : Cond.methodLink RX12 244 yX12_isClash ∈ lw_tbl := List.mem_of_getElem? (i := 1927) (by decide +kernel)
theorem kl_X12_247 : Cond.methodLink RX12 247 yX12_noLine ∈ lw_tbl := List.mem_of_getElem? (i := 1869) (by decide +kernel)
theorem kl_X12_250 : Cond.methodLink RX12 250 yX12_widths ∈ lw_tbl := List.mem_of_getElem? (i := 1885) (by decide +kernel)
theorem kl_X12_253 : Cond.methodLink RX12 253 yX12_crowns ∈ lw_tbl := List.mem_of_getElem? (i := 1901) (by decide +kernel)
theorem kl_X12_256 : Cond.methodLink RX12 256 yX12_feet ∈ lw_tbl := List.mem_of_getElem? (i := 1919) (by decide +kernel)
theorem kl_X12_259 : Cond.methodLink RX12 259 yX12_clashesOf ∈ lw_tbl := List.mem_of_getElem? (i := 1923) (by decide +kernel)
theorem kl_X12_262 : Cond.methodLink RX12 262 yX12_layForms ∈ lw_tbl := List.mem_of_getElem? (i := 1939) (by decide +kernel)
theorem kl_X12_267 : Cond.methodLink RX12 267 yX12_manyIn ∈ lw_tbl := List.mem_of_getElem? (i := 1944) (by decide +kernel)
theorem kl_X12_270 : Cond.methodLink RX12 270 yX12_signIn ∈ lw_tbl := List.mem_of_getElem? (i := 1948) (by decide +kernel)
theorem kl_X12_274 : Cond.methodLink RX12 274 yX12_isPlace ∈ lw_tbl := List.mem_of_getElem? (i := 1960) (by decide +kernel)
theorem kl_X12_277 : Cond.methodLink RX12 277 yX12_clusterAt ∈ lw_tbl := List.mem_of_getElem? (i := 1964) (by decide +kernel)
theorem kl_X12_280 : Cond.methodLink RX12 280 yX12_noCluster ∈ lw_tbl := List.mem_of_getElem? (i := 1972) (by decide +kernel)
theorem kl_X12_283 : Cond.methodLink RX12 283 yX12_composedOf ∈ lw_tbl := List.mem_of_getElem? (i := 1980) (by decide +kernel)
theorem kl_X12_296 : Cond.methodLink RX12 296 yX12_noTwoLines ∈ lw_tbl := List.mem_of_getElem? (i := 2006) (by decide +kernel)
theorem kl_X12_299 : Cond.methodLink RX12 299 yX12_layTwo ∈ lw_tbl := List.mem_of_getElem? (i := 2010) (by decide +kernel)
theorem kl_X12_303 : Cond.methodLink RX12 303 yX12_otherBase ∈ lw_tbl := List.mem_of_getElem? (i := 2018) (by decide +kernel)
theorem kl_X12_306 : Cond.methodLink RX12 306 yX12_isSameCluster ∈ lw_tbl := List.mem_of_getElem? (i := 2034) (by decide +kernel)
theorem kl_X12_309 : Cond.methodLink RX12 309 yX12_noPattern ∈ lw_tbl := List.mem_of_getElem? (i := 2026) (by decide +kernel)
theorem kl_X12_312 : Cond.methodLink RX12 312 yX12_isMatch ∈ lw_tbl := List.mem_of_getElem? (i := 2030) (by decide +kernel)
theorem kl_X12_316 : Cond.methodLink RX12 316 yX12_mayHave ∈ lw_tbl := List.mem_of_getElem? (i := 2050) (by decide +kernel)
theorem kl_X12_319 : Cond.methodLink RX12 319 yX12_record ∈ lw_tbl := List.mem_of_getElem? (i := 2066) (by decide +kernel)
theorem kl_X12_322 : Cond.methodLink RX12 322 yX12_shorten ∈ lw_tbl := List.mem_of_getElem? (i := 2081) (by decide +kernel)
theorem kl_X12_325 : Cond.methodLink RX12 325 yX12_write ∈ lw_tbl := List.mem_of_getElem? (i := 2089) (by decide +kernel)
theorem kl_X12_331 : Cond.methodLink RX12 331 yX12_become ∈ lw_tbl := List.mem_of_getElem? (i := 2102) (by decide +kernel)
theorem kl_X12_337 : Cond.methodLink RX12 337 yX12_set ∈ lw_tbl := List.mem_of_getElem? (i := 2119) (by decide +kernel)
theorem kl_X12_343 : Cond.methodLink RX12 343 yX12_put ∈ lw_tbl := List.mem_of_getElem? (i := 2131) (by decide +kernel)
theorem kl_X12_346 : Cond.methodLink RX12 346 yX12_putSign ∈ lw_tbl := List.mem_of_getElem? (i := 2135) (by decide +kernel)
theorem kl_X12_352 : Cond.methodLink RX12 352 yX12_copy ∈ lw_tbl := List.mem_of_getElem? (i := 2070) (by decide +kernel)
theorem kl_X12_366 : Cond.methodLink RX12 366 yX12_byteAt ∈ lw_tbl := List.mem_of_getElem? (i := 2179) (by decide +kernel)
theorem kl_X12_378 : Cond.methodLink RX12 378 yX12_isLetter ∈ lw_tbl := List.mem_of_getElem? (i := 2183) (by decide +kernel)
theorem kl_X12_381 : Cond.methodLink RX12 381 yX12_isDigit ∈ lw_tbl := List.mem_of_getElem? (i := 2187) (by decide +kernel)
theorem kl_X12_390 : Cond.methodLink RX12 390 yX12_scan ∈ lw_tbl := List.mem_of_getElem? (i := 2175) (by decide +kernel)
theorem kl_X12_396 : Cond.methodLink RX12 396 yX12_flaw ∈ lw_tbl := List.mem_of_getElem? (i := 2213) (by decide +kernel)
theorem kl_X12_399 : Cond.methodLink RX12 399 yJ0_length_8abf5 ∈ lw_tbl := List.mem_of_getElem? (i := 2203) (by decide +kernel)
theorem kl_X12_402 : Cond.methodLink RX12 402 yJ0_charAt_5068e ∈ lw_tbl := List.mem_of_getElem? (i := 2204) (by decide +kernel)
theorem kl_X12_406 : Cond.methodLink RX12 406 yX12_isWord ∈ lw_tbl := List.mem_of_getElem? (i := 2199) (by decide +kernel)
theorem kl_X12_410 : Cond.methodLink RX12 410 yX12_check ∈ lw_tbl := List.mem_of_getElem? (i := 2209) (by decide +kernel)
theorem kl_X12_414 : Cond.methodLink RX12 414 yX12_advance ∈ lw_tbl := List.mem_of_getElem? (i := 2241) (by decide +kernel)
theorem kl_X12_417 : Cond.methodLink RX12 417 yX12_isSymbol ∈ lw_tbl := List.mem_of_getElem? (i := 2291) (by decide +kernel)
theorem kl_X12_426 : Cond.methodLink RX12 426 yJ9_min_f86c9 ∈ lw_tbl := List.mem_of_getElem? (i := 2256) (by decide +kernel)
theorem kl_X12_429 : Cond.methodLink RX12 429 yX12_value ∈ lw_tbl := List.mem_of_getElem? (i := 2249) (by decide +kernel)
theorem kl_X12_432 : Cond.methodLink RX12 432 yX12_letterHere ∈ lw_tbl := List.mem_of_getElem? (i := 2237) (by decide +kernel)
theorem kl_X12_435 : Cond.methodLink RX12 435 yX12_isNameHere ∈ lw_tbl := List.mem_of_getElem? (i := 2229) (by decide +kernel)
theorem kl_X12_439 : Cond.methodLink RX12 439 yX12_named ∈ lw_tbl := List.mem_of_getElem? (i := 2233) (by decide +kernel)
theorem kl_X12_448 : Cond.methodLink RX12 448 yX12_readName ∈ lw_tbl := List.mem_of_getElem? (i := 2225) (by decide +kernel)
theorem kl_X12_451 : Cond.methodLink RX12 451 yX12_readNumber ∈ lw_tbl := List.mem_of_getElem? (i := 2245) (by decide +kernel)
theorem kl_X12_454 : Cond.methodLink RX12 454 yX12_sideHere ∈ lw_tbl := List.mem_of_getElem? (i := 2263) (by decide +kernel)
theorem kl_X12_457 : Cond.methodLink RX12 457 yX12_isSideOf ∈ lw_tbl := List.mem_of_getElem? (i := 2270) (by decide +kernel)
theorem kl_X12_460 : Cond.methodLink RX12 460 yX12_lookSign ∈ lw_tbl := List.mem_of_getElem? (i := 2282) (by decide +kernel)
theorem kl_X12_465 : Cond.methodLink RX12 465 yX12_accept ∈ lw_tbl := List.mem_of_getElem? (i := 2217) (by decide +kernel)
theorem kl_X12_468 : Cond.methodLink RX12 468 yX12_readBase ∈ lw_tbl := List.mem_of_getElem? (i := 2221) (by decide +kernel)
theorem kl_X12_471 : Cond.methodLink RX12 471 yX12_readMark ∈ lw_tbl := List.mem_of_getElem? (i := 2259) (by decide +kernel)
theorem kl_X12_474 : Cond.methodLink RX12 474 yX12_expectWord ∈ lw_tbl := List.mem_of_getElem? (i := 2274) (by decide +kernel)
theorem kl_X12_478 : Cond.methodLink RX12 478 yX12_readPair ∈ lw_tbl := List.mem_of_getElem? (i := 2278) (by decide +kernel)
theorem kl_X12_481 : Cond.methodLink RX12 481 yX12_expect ∈ lw_tbl := List.mem_of_getElem? (i := 2287) (by decide +kernel)
theorem kl_X12_484 : Cond.methodLink RX12 484 yX12_isSignHere ∈ lw_tbl := List.mem_of_getElem? (i := 2195) (by decide +kernel)
theorem kl_X12_487 : Cond.methodLink RX12 487 yX12_readSign ∈ lw_tbl := List.mem_of_getElem? (i := 2205) (by decide +kernel)
theorem kl_X12_490 : Cond.methodLink RX12 490 yX12_readLine ∈ lw_tbl := List.mem_of_getElem? (i := 2295) (by decide +kernel)
theorem kl_X12_493 : Cond.methodLink RX12 493 yX12_startText ∈ lw_tbl := List.mem_of_getElem? (i := 2171) (by decide +kernel)
theorem kl_X12_496 : Cond.methodLink RX12 496 yX12_readAll ∈ lw_tbl := List.mem_of_getElem? (i := 2191) (by decide +kernel)
theorem kl_X12_499 : Cond.methodLink RX12 499 yX12_finish ∈ lw_tbl := List.mem_of_getElem? (i := 2299) (by decide +kernel)
theorem kl_X12_505 : Cond.methodLink RX12 505 yX12_emit ∈ lw_tbl := List.mem_of_getElem? (i := 2326) (by decide +kernel)
theorem kl_X12_510 : Cond.methodLink RX12 510 yX12_enter ∈ lw_tbl := List.mem_of_getElem? (i := 2322) (by decide +kernel)
theorem kl_X12_513 : Cond.methodLink RX12 513 yX12_compileFactor ∈ lw_tbl := List.mem_of_getElem? (i := 2317) (by decide +kernel)
theorem kl_X12_516 : Cond.methodLink RX12 516 yX12_compileTest ∈ lw_tbl := List.mem_of_getElem? (i := 2309) (by decide +kernel)
theorem kl_X12_519 : Cond.methodLink RX12 519 yX12_compileValue ∈ lw_tbl := List.mem_of_getElem? (i := 2330) (by decide +kernel)
theorem kl_X12_524 : Cond.methodLink RX12 524 yX12_compileConjunction ∈ lw_tbl := List.mem_of_getElem? (i := 2313) (by decide +kernel)
theorem kl_X12_529 : Cond.methodLink RX12 529 yX12_property ∈ lw_tbl := List.mem_of_getElem? (i := 2341) (by decide +kernel)
theorem kl_X12_532 : Cond.methodLink RX12 532 yX12_operate ∈ lw_tbl := List.mem_of_getElem? (i := 2345) (by decide +kernel)
theorem kl_X12_540 : Cond.methodLink RX12 540 yX12_holdsFor ∈ lw_tbl := List.mem_of_getElem? (i := 2337) (by decide +kernel)
theorem kl_J13_311 : Cond.methodLink RJ13 311 yJ6_numberOfTrailingZeros_0f7a4 ∈ lw_tbl := List.mem_of_getElem? (i := 1594) (by decide +kernel)
theorem kl_J0_335 : Cond.methodLink RJ0 335 yJ0_coder_7d493 ∈ lw_tbl := List.mem_of_getElem? (i := 801) (by decide +kernel)
theorem kl_J0_492 : Cond.methodLink RJ0 492 yJ0_isLatin1_aae02 ∈ lw_tbl := List.mem_of_getElem? (i := 811) (by decide +kernel)
theorem kl_J0_495 : Cond.methodLink RJ0 495 yJ1_charAt_3b067 ∈ lw_tbl := List.mem_of_getElem? (i := 815) (by decide +kernel)
theorem kl_J0_1059 : Cond.methodLink RJ0 1059 yJ3_checkIndex_8e157 ∈ lw_tbl := List.mem_of_getElem? (i := 823) (by decide +kernel)
theorem kl_J1_9 : Cond.methodLink RJ1 9 yJ0_checkIndex_df160 ∈ lw_tbl := List.mem_of_getElem? (i := 818) (by decide +kernel)
theorem fv_J0_charAt_5068e : MsYV mJ0_charAt_5068e := ⟨List.mem_of_getElem? (i := 808) (by decide +kernel), List.mem_of_getElem? (i := 809) (by decide +kernel), List.mem_of_getElem? (i := 157) (by decide +kernel), List.mem_of_getElem? (i := 810) (by decide +kernel), by decide +kernel, by decide +kernel, by decide⟩
theorem fs_J0_checkIndex_df160 : MsYS mJ0_checkIndex_df160 := ⟨List.mem_of_getElem? (i := 819) (by decide +kernel), List.mem_of_getElem? (i := 157) (by decide +kernel), List.mem_of_getElem? (i := 820) (by decide +kernel), by decide +kernel, by decide +kernel, by decide⟩
theorem fv_J0_coder_7d493 : MsYV mJ0_coder_7d493 := ⟨List.mem_of_getElem? (i := 802) (by decide +kernel), List.mem_of_getElem? (i := 803) (by decide +kernel), List.mem_of_getElem? (i := 157) (by decide +kernel), List.mem_of_getElem? (i := 804) (by decide +kernel), by decide +kernel, by decide +kernel, by decide⟩
theorem fv_J0_isLatin1_aae02 : MsYV mJ0_isLatin1_aae02 := ⟨List.mem_of_getElem? (i := 812) (by decide +kernel), List.mem_of_getElem? (i := 813) (by decide +kernel), List.mem_of_getElem? (i := 157) (by decide +kernel), List.mem_of_getElem? (i := 814) (by decide +kernel), by decide +kernel, by decide +kernel, by decide⟩
theorem fv_J0_length_8abf5 : MsYV mJ0_length_8abf5 := ⟨List.mem_of_getElem? (i := 798) (by decide +kernel), List.mem_of_getElem? (i := 799) (by decide +kernel), List.mem_of_getElem? (i := 157) (by decide +kernel), List.mem_of_getElem? (i := 800) (by decide +kernel), by decide +kernel, by decide +kernel, by decide⟩
theorem fs_J13_bitCount_95d88 : MsYS mJ13_bitCount_95d88 := ⟨List.mem_of_getElem? (i := 1586) (by decide +kernel), List.mem_of_getElem? (i := 164) (by decide +kernel), List.mem_of_getElem? (i := 1587) (by decide +kernel), by decide +kernel, by decide +kernel, by decide⟩
theorem fs_J13_numberOfTrailingZeros_95d88 : MsYS mJ13_numberOfTrailingZeros_95d88 := ⟨List.mem_of_getElem? (i := 1592) (by decide +kernel), List.mem_of_getElem? (i := 164) (by decide +kernel), List.mem_of_getElem? (i := 1593) (by decide +kernel), by decide +kernel, by decide +kernel, by decide⟩
theorem fs_J1_charAt_3b067 : MsYS mJ1_charAt_3b067 := ⟨List.mem_of_getElem? (i := 816) (by decide +kernel), List.mem_of_getElem? (i := 158) (by decide +kernel), List.mem_of_getElem? (i := 817) (by decide +kernel), by decide +kernel, by decide +kernel, by decide⟩
theorem fs_J3_checkIndex_8e157 : MsYS mJ3_checkIndex_8e157 := ⟨List.mem_of_getElem? (i := 824) (by decide +kernel), List.mem_of_getElem? (i := 159) (by decide +kernel), List.mem_of_getElem? (i := 825) (by decide +kernel), by decide +kernel, by decide +kernel, by decide⟩
theorem fs_J6_compare_7cf53 : MsYS mJ6_compare_7cf53 := ⟨List.mem_of_getElem? (i := 1574) (by decide +kernel), List.mem_of_getElem? (i := 163) (by decide +kernel), List.mem_of_getElem? (i := 1575) (by decide +kernel), by decide +kernel, by decide +kernel, by decide⟩
theorem fs_J6_numberOfTrailingZeros_0f7a4 : MsYS mJ6_numberOfTrailingZeros_0f7a4 := ⟨List.mem_of_getElem? (i := 1595) (by decide +kernel), List.mem_of_getElem? (i := 163) (by decide +kernel), List.mem_of_getElem? (i := 1596) (by decide +kernel), by decide +kernel, by decide +kernel, by decide⟩
theorem fs_J9_min_f86c9 : MsYS mJ9_min_f86c9 := ⟨List.mem_of_getElem? (i := 2257) (by decide +kernel), List.mem_of_getElem? (i := 144) (by decide +kernel), List.mem_of_getElem? (i := 2258) (by decide +kernel), by decide +kernel, by decide +kernel, by decide⟩
theorem fv_X0_addBox : MsYV mX0_addBox := ⟨List.mem_of_getElem? (i := 1199) (by decide +kernel), List.mem_of_getElem? (i := 29) (by decide +kernel), List.mem_of_getElem? (i := 150) (by decide +kernel), List.mem_of_getElem? (i := 1200) (by decide +kernel), by decide +kernel, by decide +kernel, by decide⟩
theorem fv_X0_anchorFor : MsYV mX0_anchorFor := ⟨List.mem_of_getElem? (i := 1195) (by decide +kernel), List.mem_of_getElem? (i := 28) (by decide +kernel), List.mem_of_getElem? (i := 150) (by decide +kernel), List.mem_of_getElem? (i := 1196) (by decide +kernel), by decide +kernel, by decide +kernel, by decide⟩
theorem fv_X0_begin : MsYV mX0_begin := ⟨List.mem_of_getElem? (i := 1184) (by decide +kernel), List.mem_of_getElem? (i := 26) (by decide +kernel), List.mem_of_getElem? (i := 150) (by decide +kernel), List.mem_of_getElem? (i := 1185) (by decide +kernel), by decide +kernel, by decide +kernel, by decide⟩
theorem fv_X0_heightOf : MsYV mX0_heightOf := ⟨List.mem_of_getElem? (i := 1179) (by decide +kernel), List.mem_of_getElem? (i := 25) (by decide +kernel), List.mem_of_getElem? (i := 150) (by decide +kernel), List.mem_of_getElem? (i := 1180) (by decide +kernel), by decide +kernel, by decide +kernel, by decide⟩
theorem fv_X0_lay : MsYV mX0_lay := ⟨List.mem_of_getElem? (i := 1172) (by decide +kernel), List.mem_of_getElem? (i := 1173) (by decide +kernel), List.mem_of_getElem? (i := 150) (by decide +kernel), List.mem_of_getElem? (i := 1174) (by decide +kernel), by decide +kernel, by decide +kernel, by decide⟩
theorem fv_X0_layMark : MsYV mX0_layMark := ⟨List.mem_of_getElem? (i := 1191) (by decide +kernel), List.mem_of_getElem? (i := 27) (by decide +kernel), List.mem_of_getElem? (i := 150) (by decide +kernel), List.mem_of_getElem? (i := 1192) (by decide +kernel), by decide +kernel, by decide +kernel, by decide⟩
theorem fv_X0_overlaps : MsYV mX0_overlaps := ⟨List.mem_of_getElem? (i := 1220) (by decide +kernel), List.mem_of_getElem? (i := 1221) (by decide +kernel), List.mem_of_getElem? (i := 150) (by decide +kernel), List.mem_of_getElem? (i := 1222) (by decide +kernel), by decide +kernel, by decide +kernel, by decide⟩
theorem fv_X0_overlapsAt : MsYV mX0_overlapsAt := ⟨List.mem_of_getElem? (i := 1225) (by decide +kernel), List.mem_of_getElem? (i := 33) (by decide +kernel), List.mem_of_getElem? (i := 150) (by decide +kernel), List.mem_of_getElem? (i := 1226) (by decide +kernel), by decide +kernel, by decide +kernel, by decide⟩
theorem fs_X10_allowIn : MsYS mX10_allowIn := ⟨List.mem_of_getElem? (i := 1405) (by decide +kernel), List.mem_of_getElem? (i := 139) (by decide +kernel), List.mem_of_getElem? (i := 1406) (by decide +kernel), by decide +kernel, by decide +kernel, by decide⟩
theorem fv_X10_clashesWithNext : MsYV mX10_clashesWithNext := ⟨List.mem_of_getElem? (i := 1216) (by decide +kernel), List.mem_of_getElem? (i := 32) (by decide +kernel), List.mem_of_getElem? (i := 139) (by decide +kernel), List.mem_of_getElem? (i := 1217) (by decide +kernel), by decide +kernel, by decide +kernel, by decide⟩
theorem fv_X10_countClashes : MsYV mX10_countClashes := ⟨List.mem_of_getElem? (i := 1212) (by decide +kernel), List.mem_of_getElem? (i := 31) (by decide +kernel), List.mem_of_getElem? (i := 139) (by decide +kernel), List.mem_of_getElem? (i := 1213) (by decide +kernel), by decide +kernel, by decide +kernel, by decide⟩
theorem fv_X10_greatestCrown : MsYV mX10_greatestCrown := ⟨List.mem_of_getElem? (i := 1169) (by decide +kernel), List.mem_of_getElem? (i := 24) (by decide +kernel), List.mem_of_getElem? (i := 139) (by decide +kernel), List.mem_of_getElem? (i := 1170) (by decide +kernel), by decide +kernel, by decide +kernel, by decide⟩
theorem fv_X10_leastFoot : MsYV mX10_leastFoot := ⟨List.mem_of_getElem? (i := 1207) (by decide +kernel), List.mem_of_getElem? (i := 30) (by decide +kernel), List.mem_of_getElem? (i := 139) (by decide +kernel), List.mem_of_getElem? (i := 1208) (by decide +kernel), by decide +kernel, by decide +kernel, by decide⟩
theorem fv_X10_needBoth : MsYV mX10_needBoth := ⟨List.mem_of_getElem? (i := 1318) (by decide +kernel), List.mem_of_getElem? (i := 36) (by decide +kernel), List.mem_of_getElem? (i := 139) (by decide +kernel), List.mem_of_getElem? (i := 1319) (by decide +kernel), by decide +kernel, by decide +kernel, by decide⟩
theorem fv_X10_needCluster : MsYV mX10_needCluster := ⟨List.mem_of_getElem? (i := 1270) (by decide +kernel), List.mem_of_getElem? (i := 35) (by decide +kernel), List.mem_of_getElem? (i := 139) (by decide +kernel), List.mem_of_getElem? (i := 1271) (by decide +kernel), by decide +kernel, by decide +kernel, by decide⟩
theorem fs_X10_needIn : MsYS mX10_needIn := ⟨List.mem_of_getElem? (i := 988) (by decide +kernel), List.mem_of_getElem? (i := 139) (by decide +kernel), List.mem_of_getElem? (i := 989) (by decide +kernel), by decide +kernel, by decide +kernel, by decide⟩
theorem fv_X10_needLength : MsYV mX10_needLength := ⟨List.mem_of_getElem? (i := 685) (by decide +kernel), List.mem_of_getElem? (i := 1) (by decide +kernel), List.mem_of_getElem? (i := 139) (by decide +kernel), List.mem_of_getElem? (i := 686) (by decide +kernel), by decide +kernel, by decide +kernel, by decide⟩
theorem fv_X10_needLine : MsYV mX10_needLine := ⟨List.mem_of_getElem? (i := 1144) (by decide +kernel), List.mem_of_getElem? (i := 21) (by decide +kernel), List.mem_of_getElem? (i := 139) (by decide +kernel), List.mem_of_getElem? (i := 1145) (by decide +kernel), by decide +kernel, by decide +kernel, by decide⟩
theorem fv_X10_needSign : MsYV mX10_needSign := ⟨List.mem_of_getElem? (i := 1023) (by decide +kernel), List.mem_of_getElem? (i := 16) (by decide +kernel), List.mem_of_getElem? (i := 139) (by decide +kernel), List.mem_of_getElem? (i := 1024) (by decide +kernel), by decide +kernel, by decide +kernel, by decide⟩
theorem fv_X10_rewrite : MsYV mX10_rewrite := ⟨List.mem_of_getElem? (i := 1466) (by decide +kernel), List.mem_of_getElem? (i := 39) (by decide +kernel), List.mem_of_getElem? (i := 139) (by decide +kernel), List.mem_of_getElem? (i := 1467) (by decide +kernel), by decide +kernel, by decide +kernel, by decide⟩
theorem fv_X10_rowOf : MsYV mX10_rowOf := ⟨List.mem_of_getElem? (i := 1236) (by decide +kernel), List.mem_of_getElem? (i := 34) (by decide +kernel), List.mem_of_getElem? (i := 139) (by decide +kernel), List.mem_of_getElem? (i := 1237) (by decide +kernel), by decide +kernel, by decide +kernel, by decide⟩
theorem fv_X10_writeName : MsYV mX10_writeName := ⟨List.mem_of_getElem? (i := 1506) (by decide +kernel), List.mem_of_getElem? (i := 40) (by decide +kernel), List.mem_of_getElem? (i := 139) (by decide +kernel), List.mem_of_getElem? (i := 1507) (by decide +kernel), by decide +kernel, by decide +kernel, by decide⟩
theorem fv_X12_accept : MsYV mX12_accept := ⟨List.mem_of_getElem? (i := 2219) (by decide +kernel), List.mem_of_getElem? (i := 111) (by decide +kernel), List.mem_of_getElem? (i := 151) (by decide +kernel), List.mem_of_getElem? (i := 2220) (by decide +kernel), by decide +kernel, by decide +kernel, by decide⟩
theorem fv_X12_add : MsYV mX12_add := ⟨List.mem_of_getElem? (i := 1855) (by decide +kernel), List.mem_of_getElem? (i := 59) (by decide +kernel), List.mem_of_getElem? (i := 151) (by decide +kernel), List.mem_of_getElem? (i := 1856) (by decide +kernel), by decide +kernel, by decide +kernel, by decide⟩
theorem fv_X12_addExpanded : MsYV mX12_addExpanded := ⟨List.mem_of_getElem? (i := 1851) (by decide +kernel), List.mem_of_getElem? (i := 58) (by decide +kernel), List.mem_of_getElem? (i := 151) (by decide +kernel), List.mem_of_getElem? (i := 1852) (by decide +kernel), by decide +kernel, by decide +kernel, by decide⟩
theorem fv_X12_advance : MsYV mX12_advance := ⟨List.mem_of_getElem? (i := 2243) (by decide +kernel), List.mem_of_getElem? (i := 117) (by decide +kernel), List.mem_of_getElem? (i := 151) (by decide +kernel), List.mem_of_getElem? (i := 2244) (by decide +kernel), by decide +kernel, by decide +kernel, by decide⟩
theorem fv_X12_baseOf : MsYV mX12_baseOf := ⟨List.mem_of_getElem? (i := 1899) (by decide +kernel), List.mem_of_getElem? (i := 69) (by decide +kernel), List.mem_of_getElem? (i := 151) (by decide +kernel), List.mem_of_getElem? (i := 1900) (by decide +kernel), by decide +kernel, by decide +kernel, by decide⟩
theorem fv_X12_become : MsYV mX12_become := ⟨List.mem_of_getElem? (i := 2104) (by decide +kernel), List.mem_of_getElem? (i := 96) (by decide +kernel), List.mem_of_getElem? (i := 151) (by decide +kernel), List.mem_of_getElem? (i := 2105) (by decide +kernel), by decide +kernel, by decide +kernel, by decide⟩
theorem fv_X12_byteAt : MsYV mX12_byteAt := ⟨List.mem_of_getElem? (i := 2181) (by decide +kernel), List.mem_of_getElem? (i := 102) (by decide +kernel), List.mem_of_getElem? (i := 151) (by decide +kernel), List.mem_of_getElem? (i := 2182) (by decide +kernel), by decide +kernel, by decide +kernel, by decide⟩
theorem fv_X12_check : MsYV mX12_check := ⟨List.mem_of_getElem? (i := 2211) (by decide +kernel), List.mem_of_getElem? (i := 109) (by decide +kernel), List.mem_of_getElem? (i := 151) (by decide +kernel), List.mem_of_getElem? (i := 2212) (by decide +kernel), by decide +kernel, by decide +kernel, by decide⟩
theorem fv_X12_clashesOf : MsYV mX12_clashesOf := ⟨List.mem_of_getElem? (i := 1925) (by decide +kernel), List.mem_of_getElem? (i := 75) (by decide +kernel), List.mem_of_getElem? (i := 151) (by decide +kernel), List.mem_of_getElem? (i := 1926) (by decide +kernel), by decide +kernel, by decide +kernel, by decide⟩
theorem fv_X12_clusterAt : MsYV mX12_clusterAt := ⟨List.mem_of_getElem? (i := 1966) (by decide +kernel), List.mem_of_getElem? (i := 82) (by decide +kernel), List.mem_of_getElem? (i := 151) (by decide +kernel), List.mem_of_getElem? (i := 1967) (by decide +kernel), by decide +kernel, by decide +kernel, by decide⟩
theorem fv_X12_compileConjunction : MsYV mX12_compileConjunction := ⟨List.mem_of_getElem? (i := 2315) (by decide +kernel), List.mem_of_getElem? (i := 131) (by decide +kernel), List.mem_of_getElem? (i := 151) (by decide +kernel), List.mem_of_getElem? (i := 2316) (by decide +kernel), by decide +kernel, by decide +kernel, by decide⟩
theorem fv_X12_compileFactor : MsYV mX12_compileFactor := ⟨List.mem_of_getElem? (i := 2319) (by decide +kernel), List.mem_of_getElem? (i := 132) (by decide +kernel), List.mem_of_getElem? (i := 151) (by decide +kernel), List.mem_of_getElem? (i := 2320) (by decide +kernel), by decide +kernel, by decide +kernel, by decide⟩
theorem fv_X12_compileTest : MsYV mX12_compileTest := ⟨List.mem_of_getElem? (i := 2311) (by decide +kernel), List.mem_of_getElem? (i := 130) (by decide +kernel), List.mem_of_getElem? (i := 151) (by decide +kernel), List.mem_of_getElem? (i := 2312) (by decide +kernel), by decide +kernel, by decide +kernel, by decide⟩
theorem fv_X12_compileValue : MsYV mX12_compileValue := ⟨List.mem_of_getElem? (i := 2332) (by decide +kernel), List.mem_of_getElem? (i := 135) (by decide +kernel), List.mem_of_getElem? (i := 151) (by decide +kernel), List.mem_of_getElem? (i := 2333) (by decide +kernel), by decide +kernel, by decide +kernel, by decide⟩
theorem fv_X12_composedOf : MsYV mX12_composedOf := ⟨List.mem_of_getElem? (i := 1982) (by decide +kernel), List.mem_of_getElem? (i := 85) (by decide +kernel), List.mem_of_getElem? (i := 151) (by decide +kernel), List.mem_of_getElem? (i := 1983) (by decide +kernel), by decide +kernel, by decide +kernel, by decide⟩
theorem fs_X12_copy : MsYS mX12_copy := ⟨List.mem_of_getElem? (i := 2071) (by decide +kernel), List.mem_of_getElem? (i := 151) (by decide +kernel), List.mem_of_getElem? (i := 2072) (by decide +kernel), by decide +kernel, by decide +kernel, by decide⟩
theorem fv_X12_crowns : MsYV mX12_crowns := ⟨List.mem_of_getElem? (i := 1903) (by decide +kernel), List.mem_of_getElem? (i := 70) (by decide +kernel), List.mem_of_getElem? (i := 151) (by decide +kernel), List.mem_of_getElem? (i := 1904) (by decide +kernel), by decide +kernel, by decide +kernel, by decide⟩
theorem fv_X12_doOverlap : MsYV mX12_doOverlap := ⟨List.mem_of_getElem? (i := 1933) (by decide +kernel), List.mem_of_getElem? (i := 77) (by decide +kernel), List.mem_of_getElem? (i := 151) (by decide +kernel), List.mem_of_getElem? (i := 1934) (by decide +kernel), by decide +kernel, by decide +kernel, by decide⟩
theorem fv_X12_emit : MsYV mX12_emit := ⟨List.mem_of_getElem? (i := 2328) (by decide +kernel), List.mem_of_getElem? (i := 134) (by decide +kernel), List.mem_of_getElem? (i := 151) (by decide +kernel), List.mem_of_getElem? (i := 2329) (by decide +kernel), by decide +kernel, by decide +kernel, by decide⟩
theorem fv_X12_enter : MsYV mX12_enter := ⟨List.mem_of_getElem? (i := 2324) (by decide +kernel), List.mem_of_getElem? (i := 133) (by decide +kernel), List.mem_of_getElem? (i := 151) (by decide +kernel), List.mem_of_getElem? (i := 2325) (by decide +kernel), by decide +kernel, by decide +kernel, by decide⟩
theorem fv_X12_expand : MsYV mX12_expand := ⟨List.mem_of_getElem? (i := 1832) (by decide +kernel), List.mem_of_getElem? (i := 57) (by decide +kernel), List.mem_of_getElem? (i := 151) (by decide +kernel), List.mem_of_getElem? (i := 1833) (by decide +kernel), by decide +kernel, by decide +kernel, by decide⟩
theorem fv_X12_expect : MsYV mX12_expect := ⟨List.mem_of_getElem? (i := 2289) (by decide +kernel), List.mem_of_getElem? (i := 126) (by decide +kernel), List.mem_of_getElem? (i := 151) (by decide +kernel), List.mem_of_getElem? (i := 2290) (by decide +kernel), by decide +kernel, by decide +kernel, by decide⟩
theorem fv_X12_expectWord : MsYV mX12_expectWord := ⟨List.mem_of_getElem? (i := 2276) (by decide +kernel), List.mem_of_getElem? (i := 123) (by decide +kernel), List.mem_of_getElem? (i := 151) (by decide +kernel), List.mem_of_getElem? (i := 2277) (by decide +kernel), by decide +kernel, by decide +kernel, by decide⟩
theorem fv_X12_feet : MsYV mX12_feet := ⟨List.mem_of_getElem? (i := 1921) (by decide +kernel), List.mem_of_getElem? (i := 74) (by decide +kernel), List.mem_of_getElem? (i := 151) (by decide +kernel), List.mem_of_getElem? (i := 1922) (by decide +kernel), by decide +kernel, by decide +kernel, by decide⟩
theorem fs_X12_findPair : MsYS mX12_findPair := ⟨List.mem_of_getElem? (i := 1839) (by decide +kernel), List.mem_of_getElem? (i := 151) (by decide +kernel), List.mem_of_getElem? (i := 1840) (by decide +kernel), by decide +kernel, by decide +kernel, by decide⟩
theorem fv_X12_finish : MsYV mX12_finish := ⟨List.mem_of_getElem? (i := 2301) (by decide +kernel), List.mem_of_getElem? (i := 129) (by decide +kernel), List.mem_of_getElem? (i := 151) (by decide +kernel), List.mem_of_getElem? (i := 2302) (by decide +kernel), by decide +kernel, by decide +kernel, by decide⟩
theorem fv_X12_firstMark : MsYV mX12_firstMark := ⟨List.mem_of_getElem? (i := 1915) (by decide +kernel), List.mem_of_getElem? (i := 73) (by decide +kernel), List.mem_of_getElem? (i := 151) (by decide +kernel), List.mem_of_getElem? (i := 1916) (by decide +kernel), by decide +kernel, by decide +kernel, by decide⟩
theorem fv_X12_flaw : MsYV mX12_flaw := ⟨List.mem_of_getElem? (i := 2215) (by decide +kernel), List.mem_of_getElem? (i := 110) (by decide +kernel), List.mem_of_getElem? (i := 151) (by decide +kernel), List.mem_of_getElem? (i := 2216) (by decide +kernel), by decide +kernel, by decide +kernel, by decide⟩
theorem fv_X12_holdsFor : MsYV mX12_holdsFor := ⟨List.mem_of_getElem? (i := 2339) (by decide +kernel), List.mem_of_getElem? (i := 136) (by decide +kernel), List.mem_of_getElem? (i := 151) (by decide +kernel), List.mem_of_getElem? (i := 2340) (by decide +kernel), by decide +kernel, by decide +kernel, by decide⟩
theorem fs_X12_inRange : MsYS mX12_inRange := ⟨List.mem_of_getElem? (i := 1809) (by decide +kernel), List.mem_of_getElem? (i := 151) (by decide +kernel), List.mem_of_getElem? (i := 1810) (by decide +kernel), by decide +kernel, by decide +kernel, by decide⟩
theorem fv_X12_isClash : MsYV mX12_isClash := ⟨List.mem_of_getElem? (i := 1929) (by decide +kernel), List.mem_of_getElem? (i := 76) (by decide +kernel), List.mem_of_getElem? (i := 151) (by decide +kernel), List.mem_of_getElem? (i := 1930) (by decide +kernel), by decide +kernel, by decide +kernel, by decide⟩
theorem fv_X12_isCluster : MsYV mX12_isCluster := ⟨List.mem_of_getElem? (i := 1978) (by decide +kernel), List.mem_of_getElem? (i := 84) (by decide +kernel), List.mem_of_getElem? (i := 151) (by decide +kernel), List.mem_of_getElem? (i := 1979) (by decide +kernel), by decide +kernel, by decide +kernel, by decide⟩
theorem fv_X12_isDigit : MsYV mX12_isDigit := ⟨List.mem_of_getElem? (i := 2189) (by decide +kernel), List.mem_of_getElem? (i := 104) (by decide +kernel), List.mem_of_getElem? (i := 151) (by decide +kernel), List.mem_of_getElem? (i := 2190) (by decide +kernel), by decide +kernel, by decide +kernel, by decide⟩
theorem fv_X12_isLetter : MsYV mX12_isLetter := ⟨List.mem_of_getElem? (i := 2185) (by decide +kernel), List.mem_of_getElem? (i := 103) (by decide +kernel), List.mem_of_getElem? (i := 151) (by decide +kernel), List.mem_of_getElem? (i := 2186) (by decide +kernel), by decide +kernel, by decide +kernel, by decide⟩
theorem fv_X12_isLine : MsYV mX12_isLine := ⟨List.mem_of_getElem? (i := 1875) (by decide +kernel), List.mem_of_getElem? (i := 63) (by decide +kernel), List.mem_of_getElem? (i := 151) (by decide +kernel), List.mem_of_getElem? (i := 1876) (by decide +kernel), by decide +kernel, by decide +kernel, by decide⟩
theorem fv_X12_isMark : MsYV mX12_isMark := ⟨List.mem_of_getElem? (i := 1859) (by decide +kernel), List.mem_of_getElem? (i := 60) (by decide +kernel), List.mem_of_getElem? (i := 151) (by decide +kernel), List.mem_of_getElem? (i := 1860) (by decide +kernel), by decide +kernel, by decide +kernel, by decide⟩
theorem fv_X12_isMatch : MsYV mX12_isMatch := ⟨List.mem_of_getElem? (i := 2032) (by decide +kernel), List.mem_of_getElem? (i := 90) (by decide +kernel), List.mem_of_getElem? (i := 151) (by decide +kernel), List.mem_of_getElem? (i := 2033) (by decide +kernel), by decide +kernel, by decide +kernel, by decide⟩
theorem fv_X12_isNameHere : MsYV mX12_isNameHere := ⟨List.mem_of_getElem? (i := 2231) (by decide +kernel), List.mem_of_getElem? (i := 114) (by decide +kernel), List.mem_of_getElem? (i := 151) (by decide +kernel), List.mem_of_getElem? (i := 2232) (by decide +kernel), by decide +kernel, by decide +kernel, by decide⟩
theorem fv_X12_isOfKind : MsYV mX12_isOfKind := ⟨List.mem_of_getElem? (i := 1783) (by decide +kernel), List.mem_of_getElem? (i := 51) (by decide +kernel), List.mem_of_getElem? (i := 151) (by decide +kernel), List.mem_of_getElem? (i := 1784) (by decide +kernel), by decide +kernel, by decide +kernel, by decide⟩
theorem fv_X12_isPlace : MsYV mX12_isPlace := ⟨List.mem_of_getElem? (i := 1962) (by decide +kernel), List.mem_of_getElem? (i := 81) (by decide +kernel), List.mem_of_getElem? (i := 151) (by decide +kernel), List.mem_of_getElem? (i := 1963) (by decide +kernel), by decide +kernel, by decide +kernel, by decide⟩
theorem fv_X12_isSameCluster : MsYV mX12_isSameCluster := ⟨List.mem_of_getElem? (i := 2036) (by decide +kernel), List.mem_of_getElem? (i := 91) (by decide +kernel), List.mem_of_getElem? (i := 151) (by decide +kernel), List.mem_of_getElem? (i := 2037) (by decide +kernel), by decide +kernel, by decide +kernel, by decide⟩
theorem fv_X12_isSideOf : MsYV mX12_isSideOf := ⟨List.mem_of_getElem? (i := 2272) (by decide +kernel), List.mem_of_getElem? (i := 122) (by decide +kernel), List.mem_of_getElem? (i := 151) (by decide +kernel), List.mem_of_getElem? (i := 2273) (by decide +kernel), by decide +kernel, by decide +kernel, by decide⟩
theorem fv_X12_isSign : MsYV mX12_isSign := ⟨List.mem_of_getElem? (i := 1806) (by decide +kernel), List.mem_of_getElem? (i := 55) (by decide +kernel), List.mem_of_getElem? (i := 151) (by decide +kernel), List.mem_of_getElem? (i := 1807) (by decide +kernel), by decide +kernel, by decide +kernel, by decide⟩
theorem fv_X12_isSignHere : MsYV mX12_isSignHere := ⟨List.mem_of_getElem? (i := 2197) (by decide +kernel), List.mem_of_getElem? (i := 106) (by decide +kernel), List.mem_of_getElem? (i := 151) (by decide +kernel), List.mem_of_getElem? (i := 2198) (by decide +kernel), by decide +kernel, by decide +kernel, by decide⟩
theorem fv_X12_isSymbol : MsYV mX12_isSymbol := ⟨List.mem_of_getElem? (i := 2293) (by decide +kernel), List.mem_of_getElem? (i := 127) (by decide +kernel), List.mem_of_getElem? (i := 151) (by decide +kernel), List.mem_of_getElem? (i := 2294) (by decide +kernel), by decide +kernel, by decide +kernel, by decide⟩
theorem fv_X12_isWord : MsYV mX12_isWord := ⟨List.mem_of_getElem? (i := 2201) (by decide +kernel), List.mem_of_getElem? (i := 107) (by decide +kernel), List.mem_of_getElem? (i := 151) (by decide +kernel), List.mem_of_getElem? (i := 2202) (by decide +kernel), by decide +kernel, by decide +kernel, by decide⟩
theorem fv_X12_layBoxes : MsYV mX12_layBoxes := ⟨List.mem_of_getElem? (i := 1907) (by decide +kernel), List.mem_of_getElem? (i := 71) (by decide +kernel), List.mem_of_getElem? (i := 151) (by decide +kernel), List.mem_of_getElem? (i := 1908) (by decide +kernel), by decide +kernel, by decide +kernel, by decide⟩
theorem fv_X12_layClusters : MsYV mX12_layClusters := ⟨List.mem_of_getElem? (i := 1879) (by decide +kernel), List.mem_of_getElem? (i := 64) (by decide +kernel), List.mem_of_getElem? (i := 151) (by decide +kernel), List.mem_of_getElem? (i := 1880) (by decide +kernel), by decide +kernel, by decide +kernel, by decide⟩
theorem fv_X12_layComposed : MsYV mX12_layComposed := ⟨List.mem_of_getElem? (i := 1863) (by decide +kernel), List.mem_of_getElem? (i := 61) (by decide +kernel), List.mem_of_getElem? (i := 151) (by decide +kernel), List.mem_of_getElem? (i := 1864) (by decide +kernel), by decide +kernel, by decide +kernel, by decide⟩
theorem fv_X12_layDecomposed : MsYV mX12_layDecomposed := ⟨List.mem_of_getElem? (i := 1883) (by decide +kernel), List.mem_of_getElem? (i := 65) (by decide +kernel), List.mem_of_getElem? (i := 151) (by decide +kernel), List.mem_of_getElem? (i := 1884) (by decide +kernel), by decide +kernel, by decide +kernel, by decide⟩
theorem fv_X12_layForms : MsYV mX12_layForms := ⟨List.mem_of_getElem? (i := 1941) (by decide +kernel), List.mem_of_getElem? (i := 78) (by decide +kernel), List.mem_of_getElem? (i := 151) (by decide +kernel), List.mem_of_getElem? (i := 1942) (by decide +kernel), by decide +kernel, by decide +kernel, by decide⟩
theorem fv_X12_layTwo : MsYV mX12_layTwo := ⟨List.mem_of_getElem? (i := 2012) (by decide +kernel), List.mem_of_getElem? (i := 87) (by decide +kernel), List.mem_of_getElem? (i := 151) (by decide +kernel), List.mem_of_getElem? (i := 2013) (by decide +kernel), by decide +kernel, by decide +kernel, by decide⟩
theorem fv_X12_letterHere : MsYV mX12_letterHere := ⟨List.mem_of_getElem? (i := 2239) (by decide +kernel), List.mem_of_getElem? (i := 116) (by decide +kernel), List.mem_of_getElem? (i := 151) (by decide +kernel), List.mem_of_getElem? (i := 2240) (by decide +kernel), by decide +kernel, by decide +kernel, by decide⟩
theorem fv_X12_linesWith : MsYV mX12_linesWith := ⟨List.mem_of_getElem? (i := 1817) (by decide +kernel), List.mem_of_getElem? (i := 56) (by decide +kernel), List.mem_of_getElem? (i := 151) (by decide +kernel), List.mem_of_getElem? (i := 1818) (by decide +kernel), by decide +kernel, by decide +kernel, by decide⟩
theorem fv_X12_lookSign : MsYV mX12_lookSign := ⟨List.mem_of_getElem? (i := 2284) (by decide +kernel), List.mem_of_getElem? (i := 125) (by decide +kernel), List.mem_of_getElem? (i := 151) (by decide +kernel), List.mem_of_getElem? (i := 2285) (by decide +kernel), by decide +kernel, by decide +kernel, by decide⟩
theorem fv_X12_manyIn : MsYV mX12_manyIn := ⟨List.mem_of_getElem? (i := 1946) (by decide +kernel), List.mem_of_getElem? (i := 79) (by decide +kernel), List.mem_of_getElem? (i := 151) (by decide +kernel), List.mem_of_getElem? (i := 1947) (by decide +kernel), by decide +kernel, by decide +kernel, by decide⟩
theorem fv_X12_manyOf : MsYV mX12_manyOf := ⟨List.mem_of_getElem? (i := 1779) (by decide +kernel), List.mem_of_getElem? (i := 50) (by decide +kernel), List.mem_of_getElem? (i := 151) (by decide +kernel), List.mem_of_getElem? (i := 1780) (by decide +kernel), by decide +kernel, by decide +kernel, by decide⟩
theorem fv_X12_marksOf : MsYV mX12_marksOf := ⟨List.mem_of_getElem? (i := 1911) (by decide +kernel), List.mem_of_getElem? (i := 72) (by decide +kernel), List.mem_of_getElem? (i := 151) (by decide +kernel), List.mem_of_getElem? (i := 1912) (by decide +kernel), by decide +kernel, by decide +kernel, by decide⟩
theorem fv_X12_mayHave : MsYV mX12_mayHave := ⟨List.mem_of_getElem? (i := 2052) (by decide +kernel), List.mem_of_getElem? (i := 92) (by decide +kernel), List.mem_of_getElem? (i := 151) (by decide +kernel), List.mem_of_getElem? (i := 2053) (by decide +kernel), by decide +kernel, by decide +kernel, by decide⟩
theorem fv_X12_named : MsYV mX12_named := ⟨List.mem_of_getElem? (i := 2235) (by decide +kernel), List.mem_of_getElem? (i := 115) (by decide +kernel), List.mem_of_getElem? (i := 151) (by decide +kernel), List.mem_of_getElem? (i := 2236) (by decide +kernel), by decide +kernel, by decide +kernel, by decide⟩
theorem fv_X12_noCluster : MsYV mX12_noCluster := ⟨List.mem_of_getElem? (i := 1974) (by decide +kernel), List.mem_of_getElem? (i := 83) (by decide +kernel), List.mem_of_getElem? (i := 151) (by decide +kernel), List.mem_of_getElem? (i := 1975) (by decide +kernel), by decide +kernel, by decide +kernel, by decide⟩
theorem fv_X12_noLine : MsYV mX12_noLine := ⟨List.mem_of_getElem? (i := 1871) (by decide +kernel), List.mem_of_getElem? (i := 62) (by decide +kernel), List.mem_of_getElem? (i := 151) (by decide +kernel), List.mem_of_getElem? (i := 1872) (by decide +kernel), by decide +kernel, by decide +kernel, by decide⟩
theorem fv_X12_noPattern : MsYV mX12_noPattern := ⟨List.mem_of_getElem? (i := 2028) (by decide +kernel), List.mem_of_getElem? (i := 89) (by decide +kernel), List.mem_of_getElem? (i := 151) (by decide +kernel), List.mem_of_getElem? (i := 2029) (by decide +kernel), by decide +kernel, by decide +kernel, by decide⟩
theorem fv_X12_noSign : MsYV mX12_noSign := ⟨List.mem_of_getElem? (i := 1802) (by decide +kernel), List.mem_of_getElem? (i := 54) (by decide +kernel), List.mem_of_getElem? (i := 151) (by decide +kernel), List.mem_of_getElem? (i := 1803) (by decide +kernel), by decide +kernel, by decide +kernel, by decide⟩
theorem fv_X12_noTwoLines : MsYV mX12_noTwoLines := ⟨List.mem_of_getElem? (i := 2008) (by decide +kernel), List.mem_of_getElem? (i := 86) (by decide +kernel), List.mem_of_getElem? (i := 151) (by decide +kernel), List.mem_of_getElem? (i := 2009) (by decide +kernel), by decide +kernel, by decide +kernel, by decide⟩
theorem fs_X12_of : MsYS mX12_of := ⟨List.mem_of_getElem? (i := 1786) (by decide +kernel), List.mem_of_getElem? (i := 151) (by decide +kernel), List.mem_of_getElem? (i := 1787) (by decide +kernel), by decide +kernel, by decide +kernel, by decide⟩
theorem fv_X12_ofBase : MsYV mX12_ofBase := ⟨List.mem_of_getElem? (i := 1895) (by decide +kernel), List.mem_of_getElem? (i := 68) (by decide +kernel), List.mem_of_getElem? (i := 151) (by decide +kernel), List.mem_of_getElem? (i := 1896) (by decide +kernel), by decide +kernel, by decide +kernel, by decide⟩
theorem fs_X12_operate : MsYS mX12_operate := ⟨List.mem_of_getElem? (i := 2346) (by decide +kernel), List.mem_of_getElem? (i := 151) (by decide +kernel), List.mem_of_getElem? (i := 2347) (by decide +kernel), by decide +kernel, by decide +kernel, by decide⟩
theorem fv_X12_otherBase : MsYV mX12_otherBase := ⟨List.mem_of_getElem? (i := 2020) (by decide +kernel), List.mem_of_getElem? (i := 88) (by decide +kernel), List.mem_of_getElem? (i := 151) (by decide +kernel), List.mem_of_getElem? (i := 2021) (by decide +kernel), by decide +kernel, by decide +kernel, by decide⟩
theorem fs_X12_parts : MsYS mX12_parts := ⟨List.mem_of_getElem? (i := 1813) (by decide +kernel), List.mem_of_getElem? (i := 151) (by decide +kernel), List.mem_of_getElem? (i := 1814) (by decide +kernel), by decide +kernel, by decide +kernel, by decide⟩
theorem fv_X12_penOf : MsYV mX12_penOf := ⟨List.mem_of_getElem? (i := 1891) (by decide +kernel), List.mem_of_getElem? (i := 67) (by decide +kernel), List.mem_of_getElem? (i := 151) (by decide +kernel), List.mem_of_getElem? (i := 1892) (by decide +kernel), by decide +kernel, by decide +kernel, by decide⟩
theorem fv_X12_property : MsYV mX12_property := ⟨List.mem_of_getElem? (i := 2343) (by decide +kernel), List.mem_of_getElem? (i := 137) (by decide +kernel), List.mem_of_getElem? (i := 151) (by decide +kernel), List.mem_of_getElem? (i := 2344) (by decide +kernel), by decide +kernel, by decide +kernel, by decide⟩
theorem fv_X12_put : MsYV mX12_put := ⟨List.mem_of_getElem? (i := 2133) (by decide +kernel), List.mem_of_getElem? (i := 98) (by decide +kernel), List.mem_of_getElem? (i := 151) (by decide +kernel), List.mem_of_getElem? (i := 2134) (by decide +kernel), by decide +kernel, by decide +kernel, by decide⟩
theorem fv_X12_putSign : MsYV mX12_putSign := ⟨List.mem_of_getElem? (i := 2137) (by decide +kernel), List.mem_of_getElem? (i := 99) (by decide +kernel), List.mem_of_getElem? (i := 151) (by decide +kernel), List.mem_of_getElem? (i := 2138) (by decide +kernel), by decide +kernel, by decide +kernel, by decide⟩
theorem fv_X12_raise : MsYV mX12_raise := ⟨List.mem_of_getElem? (i := 1794) (by decide +kernel), List.mem_of_getElem? (i := 53) (by decide +kernel), List.mem_of_getElem? (i := 151) (by decide +kernel), List.mem_of_getElem? (i := 1795) (by decide +kernel), by decide +kernel, by decide +kernel, by decide⟩
theorem fv_X12_readAll : MsYV mX12_readAll := ⟨List.mem_of_getElem? (i := 2193) (by decide +kernel), List.mem_of_getElem? (i := 105) (by decide +kernel), List.mem_of_getElem? (i := 151) (by decide +kernel), List.mem_of_getElem? (i := 2194) (by decide +kernel), by decide +kernel, by decide +kernel, by decide⟩
theorem fv_X12_readBase : MsYV mX12_readBase := ⟨List.mem_of_getElem? (i := 2223) (by decide +kernel), List.mem_of_getElem? (i := 112) (by decide +kernel), List.mem_of_getElem? (i := 151) (by decide +kernel), List.mem_of_getElem? (i := 2224) (by decide +kernel), by decide +kernel, by decide +kernel, by decide⟩
theorem fv_X12_readLine : MsYV mX12_readLine := ⟨List.mem_of_getElem? (i := 2297) (by decide +kernel), List.mem_of_getElem? (i := 128) (by decide +kernel), List.mem_of_getElem? (i := 151) (by decide +kernel), List.mem_of_getElem? (i := 2298) (by decide +kernel), by decide +kernel, by decide +kernel, by decide⟩
theorem fv_X12_readMark : MsYV mX12_readMark := ⟨List.mem_of_getElem? (i := 2261) (by decide +kernel), List.mem_of_getElem? (i := 120) (by decide +kernel), List.mem_of_getElem? (i := 151) (by decide +kernel), List.mem_of_getElem? (i := 2262) (by decide +kernel), by decide +kernel, by decide +kernel, by decide⟩
theorem fv_X12_readName : MsYV mX12_readName := ⟨List.mem_of_getElem? (i := 2227) (by decide +kernel), List.mem_of_getElem? (i := 113) (by decide +kernel), List.mem_of_getElem? (i := 151) (by decide +kernel), List.mem_of_getElem? (i := 2228) (by decide +kernel), by decide +kernel, by decide +kernel, by decide⟩
theorem fv_X12_readNumber : MsYV mX12_readNumber := ⟨List.mem_of_getElem? (i := 2247) (by decide +kernel), List.mem_of_getElem? (i := 118) (by decide +kernel), List.mem_of_getElem? (i := 151) (by decide +kernel), List.mem_of_getElem? (i := 2248) (by decide +kernel), by decide +kernel, by decide +kernel, by decide⟩
theorem fv_X12_readPair : MsYV mX12_readPair := ⟨List.mem_of_getElem? (i := 2280) (by decide +kernel), List.mem_of_getElem? (i := 124) (by decide +kernel), List.mem_of_getElem? (i := 151) (by decide +kernel), List.mem_of_getElem? (i := 2281) (by decide +kernel), by decide +kernel, by decide +kernel, by decide⟩
theorem fv_X12_readSign : MsYV mX12_readSign := ⟨List.mem_of_getElem? (i := 2207) (by decide +kernel), List.mem_of_getElem? (i := 108) (by decide +kernel), List.mem_of_getElem? (i := 151) (by decide +kernel), List.mem_of_getElem? (i := 2208) (by decide +kernel), by decide +kernel, by decide +kernel, by decide⟩
theorem fv_X12_record : MsYV mX12_record := ⟨List.mem_of_getElem? (i := 2068) (by decide +kernel), List.mem_of_getElem? (i := 93) (by decide +kernel), List.mem_of_getElem? (i := 151) (by decide +kernel), List.mem_of_getElem? (i := 2069) (by decide +kernel), by decide +kernel, by decide +kernel, by decide⟩
theorem fv_X12_scan : MsYV mX12_scan := ⟨List.mem_of_getElem? (i := 2177) (by decide +kernel), List.mem_of_getElem? (i := 101) (by decide +kernel), List.mem_of_getElem? (i := 151) (by decide +kernel), List.mem_of_getElem? (i := 2178) (by decide +kernel), by decide +kernel, by decide +kernel, by decide⟩
theorem fv_X12_set : MsYV mX12_set := ⟨List.mem_of_getElem? (i := 2121) (by decide +kernel), List.mem_of_getElem? (i := 97) (by decide +kernel), List.mem_of_getElem? (i := 151) (by decide +kernel), List.mem_of_getElem? (i := 2122) (by decide +kernel), by decide +kernel, by decide +kernel, by decide⟩
theorem fv_X12_shorten : MsYV mX12_shorten := ⟨List.mem_of_getElem? (i := 2083) (by decide +kernel), List.mem_of_getElem? (i := 94) (by decide +kernel), List.mem_of_getElem? (i := 151) (by decide +kernel), List.mem_of_getElem? (i := 2084) (by decide +kernel), by decide +kernel, by decide +kernel, by decide⟩
theorem fv_X12_sideHere : MsYV mX12_sideHere := ⟨List.mem_of_getElem? (i := 2265) (by decide +kernel), List.mem_of_getElem? (i := 121) (by decide +kernel), List.mem_of_getElem? (i := 151) (by decide +kernel), List.mem_of_getElem? (i := 2266) (by decide +kernel), by decide +kernel, by decide +kernel, by decide⟩
theorem fv_X12_signIn : MsYV mX12_signIn := ⟨List.mem_of_getElem? (i := 1950) (by decide +kernel), List.mem_of_getElem? (i := 80) (by decide +kernel), List.mem_of_getElem? (i := 151) (by decide +kernel), List.mem_of_getElem? (i := 1951) (by decide +kernel), by decide +kernel, by decide +kernel, by decide⟩
theorem fv_X12_spares : MsYV mX12_spares := ⟨List.mem_of_getElem? (i := 1790) (by decide +kernel), List.mem_of_getElem? (i := 52) (by decide +kernel), List.mem_of_getElem? (i := 151) (by decide +kernel), List.mem_of_getElem? (i := 1791) (by decide +kernel), by decide +kernel, by decide +kernel, by decide⟩
theorem fs_X12_spot : MsYS mX12_spot := ⟨List.mem_of_getElem? (i := 1820) (by decide +kernel), List.mem_of_getElem? (i := 151) (by decide +kernel), List.mem_of_getElem? (i := 1821) (by decide +kernel), by decide +kernel, by decide +kernel, by decide⟩
theorem fv_X12_startText : MsYV mX12_startText := ⟨List.mem_of_getElem? (i := 2173) (by decide +kernel), List.mem_of_getElem? (i := 100) (by decide +kernel), List.mem_of_getElem? (i := 151) (by decide +kernel), List.mem_of_getElem? (i := 2174) (by decide +kernel), by decide +kernel, by decide +kernel, by decide⟩
theorem fv_X12_value : MsYV mX12_value := ⟨List.mem_of_getElem? (i := 2251) (by decide +kernel), List.mem_of_getElem? (i := 119) (by decide +kernel), List.mem_of_getElem? (i := 151) (by decide +kernel), List.mem_of_getElem? (i := 2252) (by decide +kernel), by decide +kernel, by decide +kernel, by decide⟩
theorem fv_X12_widths : MsYV mX12_widths := ⟨List.mem_of_getElem? (i := 1887) (by decide +kernel), List.mem_of_getElem? (i := 66) (by decide +kernel), List.mem_of_getElem? (i := 151) (by decide +kernel), List.mem_of_getElem? (i := 1888) (by decide +kernel), by decide +kernel, by decide +kernel, by decide⟩
theorem fv_X12_write : MsYV mX12_write := ⟨List.mem_of_getElem? (i := 2091) (by decide +kernel), List.mem_of_getElem? (i := 95) (by decide +kernel), List.mem_of_getElem? (i := 151) (by decide +kernel), List.mem_of_getElem? (i := 2092) (by decide +kernel), by decide +kernel, by decide +kernel, by decide⟩
theorem fv_X1_classWith : MsYV mX1_classWith := ⟨List.mem_of_getElem? (i := 1157) (by decide +kernel), List.mem_of_getElem? (i := 23) (by decide +kernel), List.mem_of_getElem? (i := 149) (by decide +kernel), List.mem_of_getElem? (i := 1158) (by decide +kernel), by decide +kernel, by decide +kernel, by decide⟩
theorem fv_X1_composeCluster : MsYV mX1_composeCluster := ⟨List.mem_of_getElem? (i := 1120) (by decide +kernel), List.mem_of_getElem? (i := 20) (by decide +kernel), List.mem_of_getElem? (i := 149) (by decide +kernel), List.mem_of_getElem? (i := 1121) (by decide +kernel), by decide +kernel, by decide +kernel, by decide⟩
theorem fv_X1_countOrders : MsYV mX1_countOrders := ⟨List.mem_of_getElem? (i := 1292) (by decide +kernel), List.mem_of_getElem? (i := 1293) (by decide +kernel), List.mem_of_getElem? (i := 149) (by decide +kernel), List.mem_of_getElem? (i := 1294) (by decide +kernel), by decide +kernel, by decide +kernel, by decide⟩
theorem fv_X1_countPassed : MsYV mX1_countPassed := ⟨List.mem_of_getElem? (i := 1153) (by decide +kernel), List.mem_of_getElem? (i := 22) (by decide +kernel), List.mem_of_getElem? (i := 149) (by decide +kernel), List.mem_of_getElem? (i := 1154) (by decide +kernel), by decide +kernel, by decide +kernel, by decide⟩
theorem fv_X1_countSwaps : MsYV mX1_countSwaps := ⟨List.mem_of_getElem? (i := 1148) (by decide +kernel), List.mem_of_getElem? (i := 1149) (by decide +kernel), List.mem_of_getElem? (i := 149) (by decide +kernel), List.mem_of_getElem? (i := 1150) (by decide +kernel), by decide +kernel, by decide +kernel, by decide⟩
theorem fv_X1_derive : MsYV mX1_derive := ⟨List.mem_of_getElem? (i := 1091) (by decide +kernel), List.mem_of_getElem? (i := 1092) (by decide +kernel), List.mem_of_getElem? (i := 149) (by decide +kernel), List.mem_of_getElem? (i := 1093) (by decide +kernel), by decide +kernel, by decide +kernel, by decide⟩
theorem fv_X1_endOf : MsYV mX1_endOf := ⟨List.mem_of_getElem? (i := 1127) (by decide +kernel), List.mem_of_getElem? (i := 1128) (by decide +kernel), List.mem_of_getElem? (i := 149) (by decide +kernel), List.mem_of_getElem? (i := 1129) (by decide +kernel), by decide +kernel, by decide +kernel, by decide⟩
theorem fv_X1_expandAll : MsYV mX1_expandAll := ⟨List.mem_of_getElem? (i := 1096) (by decide +kernel), List.mem_of_getElem? (i := 17) (by decide +kernel), List.mem_of_getElem? (i := 149) (by decide +kernel), List.mem_of_getElem? (i := 1097) (by decide +kernel), by decide +kernel, by decide +kernel, by decide⟩
theorem fv_X1_findClusters : MsYV mX1_findClusters := ⟨List.mem_of_getElem? (i := 1115) (by decide +kernel), List.mem_of_getElem? (i := 19) (by decide +kernel), List.mem_of_getElem? (i := 149) (by decide +kernel), List.mem_of_getElem? (i := 1116) (by decide +kernel), by decide +kernel, by decide +kernel, by decide⟩
theorem fv_X1_firstMark : MsYV mX1_firstMark := ⟨List.mem_of_getElem? (i := 1123) (by decide +kernel), List.mem_of_getElem? (i := 1124) (by decide +kernel), List.mem_of_getElem? (i := 149) (by decide +kernel), List.mem_of_getElem? (i := 1125) (by decide +kernel), by decide +kernel, by decide +kernel, by decide⟩
theorem fv_X1_hasSameSigns : MsYV mX1_hasSameSigns := ⟨List.mem_of_getElem? (i := 1333) (by decide +kernel), List.mem_of_getElem? (i := 37) (by decide +kernel), List.mem_of_getElem? (i := 149) (by decide +kernel), List.mem_of_getElem? (i := 1334) (by decide +kernel), by decide +kernel, by decide +kernel, by decide⟩
theorem fv_X1_isFoundAt : MsYV mX1_isFoundAt := ⟨List.mem_of_getElem? (i := 1328) (by decide +kernel), List.mem_of_getElem? (i := 1329) (by decide +kernel), List.mem_of_getElem? (i := 149) (by decide +kernel), List.mem_of_getElem? (i := 1330) (by decide +kernel), by decide +kernel, by decide +kernel, by decide⟩
theorem fv_X1_isOfSide : MsYV mX1_isOfSide := ⟨List.mem_of_getElem? (i := 1451) (by decide +kernel), List.mem_of_getElem? (i := 38) (by decide +kernel), List.mem_of_getElem? (i := 149) (by decide +kernel), List.mem_of_getElem? (i := 1452) (by decide +kernel), by decide +kernel, by decide +kernel, by decide⟩
theorem fv_X1_marksIn : MsYV mX1_marksIn := ⟨List.mem_of_getElem? (i := 1273) (by decide +kernel), List.mem_of_getElem? (i := 1274) (by decide +kernel), List.mem_of_getElem? (i := 149) (by decide +kernel), List.mem_of_getElem? (i := 1275) (by decide +kernel), by decide +kernel, by decide +kernel, by decide⟩
theorem fv_X1_marksOfSide : MsYV mX1_marksOfSide := ⟨List.mem_of_getElem? (i := 1446) (by decide +kernel), List.mem_of_getElem? (i := 1447) (by decide +kernel), List.mem_of_getElem? (i := 149) (by decide +kernel), List.mem_of_getElem? (i := 1448) (by decide +kernel), by decide +kernel, by decide +kernel, by decide⟩
theorem fv_X1_marksUpTo : MsYV mX1_marksUpTo := ⟨List.mem_of_getElem? (i := 1433) (by decide +kernel), List.mem_of_getElem? (i := 1434) (by decide +kernel), List.mem_of_getElem? (i := 149) (by decide +kernel), List.mem_of_getElem? (i := 1435) (by decide +kernel), by decide +kernel, by decide +kernel, by decide⟩
theorem fv_X1_penOf : MsYV mX1_penOf := ⟨List.mem_of_getElem? (i := 1160) (by decide +kernel), List.mem_of_getElem? (i := 1161) (by decide +kernel), List.mem_of_getElem? (i := 149) (by decide +kernel), List.mem_of_getElem? (i := 1162) (by decide +kernel), by decide +kernel, by decide +kernel, by decide⟩
theorem fv_X1_sinkMark : MsYV mX1_sinkMark := ⟨List.mem_of_getElem? (i := 1105) (by decide +kernel), List.mem_of_getElem? (i := 18) (by decide +kernel), List.mem_of_getElem? (i := 149) (by decide +kernel), List.mem_of_getElem? (i := 1106) (by decide +kernel), by decide +kernel, by decide +kernel, by decide⟩
theorem fv_X1_writeWithout : MsYV mX1_writeWithout := ⟨List.mem_of_getElem? (i := 1454) (by decide +kernel), List.mem_of_getElem? (i := 1455) (by decide +kernel), List.mem_of_getElem? (i := 149) (by decide +kernel), List.mem_of_getElem? (i := 1456) (by decide +kernel), by decide +kernel, by decide +kernel, by decide⟩
theorem fv_X2_forget : MsYV mX2_forget := ⟨List.mem_of_getElem? (i := 672) (by decide +kernel), List.mem_of_getElem? (i := 673) (by decide +kernel), List.mem_of_getElem? (i := 147) (by decide +kernel), List.mem_of_getElem? (i := 674) (by decide +kernel), by decide +kernel, by decide +kernel, by decide⟩
theorem fv_X2_memoryAt : MsYV mX2_memoryAt := ⟨List.mem_of_getElem? (i := 624) (by decide +kernel), List.mem_of_getElem? (i := 0) (by decide +kernel), List.mem_of_getElem? (i := 147) (by decide +kernel), List.mem_of_getElem? (i := 625) (by decide +kernel), by decide +kernel, by decide +kernel, by decide⟩
theorem fv_X2_record : MsYV mX2_record := ⟨List.mem_of_getElem? (i := 1392) (by decide +kernel), List.mem_of_getElem? (i := 1393) (by decide +kernel), List.mem_of_getElem? (i := 147) (by decide +kernel), List.mem_of_getElem? (i := 1394) (by decide +kernel), by decide +kernel, by decide +kernel, by decide⟩
theorem fv_X2_takeBack : MsYV mX2_takeBack := ⟨List.mem_of_getElem? (i := 619) (by decide +kernel), List.mem_of_getElem? (i := 620) (by decide +kernel), List.mem_of_getElem? (i := 147) (by decide +kernel), List.mem_of_getElem? (i := 621) (by decide +kernel), by decide +kernel, by decide +kernel, by decide⟩
theorem fv_X3_giveBack : MsYV mX3_giveBack := ⟨List.mem_of_getElem? (i := 627) (by decide +kernel), List.mem_of_getElem? (i := 628) (by decide +kernel), List.mem_of_getElem? (i := 148) (by decide +kernel), List.mem_of_getElem? (i := 629) (by decide +kernel), by decide +kernel, by decide +kernel, by decide⟩
theorem fv_X3_keep : MsYV mX3_keep := ⟨List.mem_of_getElem? (i := 661) (by decide +kernel), List.mem_of_getElem? (i := 662) (by decide +kernel), List.mem_of_getElem? (i := 148) (by decide +kernel), List.mem_of_getElem? (i := 663) (by decide +kernel), by decide +kernel, by decide +kernel, by decide⟩
theorem fv_X4_allPlaces : MsYV mX4_allPlaces := ⟨List.mem_of_getElem? (i := 1578) (by decide +kernel), List.mem_of_getElem? (i := 49) (by decide +kernel), List.mem_of_getElem? (i := 146) (by decide +kernel), List.mem_of_getElem? (i := 1579) (by decide +kernel), by decide +kernel, by decide +kernel, by decide⟩
theorem fv_X4_propertyAhead : MsYV mX4_propertyAhead := ⟨List.mem_of_getElem? (i := 1559) (by decide +kernel), List.mem_of_getElem? (i := 47) (by decide +kernel), List.mem_of_getElem? (i := 146) (by decide +kernel), List.mem_of_getElem? (i := 1560) (by decide +kernel), by decide +kernel, by decide +kernel, by decide⟩
theorem fv_X4_readComparison : MsYV mX4_readComparison := ⟨List.mem_of_getElem? (i := 1550) (by decide +kernel), List.mem_of_getElem? (i := 45) (by decide +kernel), List.mem_of_getElem? (i := 146) (by decide +kernel), List.mem_of_getElem? (i := 1551) (by decide +kernel), by decide +kernel, by decide +kernel, by decide⟩
theorem fv_X4_readConjunction : MsYV mX4_readConjunction := ⟨List.mem_of_getElem? (i := 1540) (by decide +kernel), List.mem_of_getElem? (i := 43) (by decide +kernel), List.mem_of_getElem? (i := 146) (by decide +kernel), List.mem_of_getElem? (i := 1541) (by decide +kernel), by decide +kernel, by decide +kernel, by decide⟩
theorem fv_X4_readFactor : MsYV mX4_readFactor := ⟨List.mem_of_getElem? (i := 1544) (by decide +kernel), List.mem_of_getElem? (i := 44) (by decide +kernel), List.mem_of_getElem? (i := 146) (by decide +kernel), List.mem_of_getElem? (i := 1545) (by decide +kernel), by decide +kernel, by decide +kernel, by decide⟩
theorem fv_X4_readQuery : MsYV mX4_readQuery := ⟨List.mem_of_getElem? (i := 1516) (by decide +kernel), List.mem_of_getElem? (i := 1517) (by decide +kernel), List.mem_of_getElem? (i := 146) (by decide +kernel), List.mem_of_getElem? (i := 1518) (by decide +kernel), by decide +kernel, by decide +kernel, by decide⟩
theorem fv_X4_readTest : MsYV mX4_readTest := ⟨List.mem_of_getElem? (i := 1536) (by decide +kernel), List.mem_of_getElem? (i := 42) (by decide +kernel), List.mem_of_getElem? (i := 146) (by decide +kernel), List.mem_of_getElem? (i := 1537) (by decide +kernel), by decide +kernel, by decide +kernel, by decide⟩
theorem fv_X4_readValue : MsYV mX4_readValue := ⟨List.mem_of_getElem? (i := 1554) (by decide +kernel), List.mem_of_getElem? (i := 46) (by decide +kernel), List.mem_of_getElem? (i := 146) (by decide +kernel), List.mem_of_getElem? (i := 1555) (by decide +kernel), by decide +kernel, by decide +kernel, by decide⟩
theorem fv_X4_tellLine : MsYV mX4_tellLine := ⟨List.mem_of_getElem? (i := 1521) (by decide +kernel), List.mem_of_getElem? (i := 41) (by decide +kernel), List.mem_of_getElem? (i := 146) (by decide +kernel), List.mem_of_getElem? (i := 1522) (by decide +kernel), by decide +kernel, by decide +kernel, by decide⟩
theorem fv_X4_valueAt : MsYV mX4_valueAt := ⟨List.mem_of_getElem? (i := 1569) (by decide +kernel), List.mem_of_getElem? (i := 48) (by decide +kernel), List.mem_of_getElem? (i := 146) (by decide +kernel), List.mem_of_getElem? (i := 1570) (by decide +kernel), by decide +kernel, by decide +kernel, by decide⟩
theorem fv_X5_add : MsYV mX5_add := ⟨List.mem_of_getElem? (i := 648) (by decide +kernel), List.mem_of_getElem? (i := 649) (by decide +kernel), List.mem_of_getElem? (i := 143) (by decide +kernel), List.mem_of_getElem? (i := 650) (by decide +kernel), by decide +kernel, by decide +kernel, by decide⟩
theorem fv_X5_addAll : MsYV mX5_addAll := ⟨List.mem_of_getElem? (i := 643) (by decide +kernel), List.mem_of_getElem? (i := 644) (by decide +kernel), List.mem_of_getElem? (i := 143) (by decide +kernel), List.mem_of_getElem? (i := 645) (by decide +kernel), by decide +kernel, by decide +kernel, by decide⟩
theorem fv_X5_clear : MsYV mX5_clear := ⟨List.mem_of_getElem? (i := 639) (by decide +kernel), List.mem_of_getElem? (i := 640) (by decide +kernel), List.mem_of_getElem? (i := 143) (by decide +kernel), List.mem_of_getElem? (i := 641) (by decide +kernel), by decide +kernel, by decide +kernel, by decide⟩
theorem fv_X5_contains : MsYV mX5_contains := ⟨List.mem_of_getElem? (i := 1031) (by decide +kernel), List.mem_of_getElem? (i := 1032) (by decide +kernel), List.mem_of_getElem? (i := 143) (by decide +kernel), List.mem_of_getElem? (i := 1033) (by decide +kernel), by decide +kernel, by decide +kernel, by decide⟩
theorem fv_X5_cut : MsYV mX5_cut := ⟨List.mem_of_getElem? (i := 1421) (by decide +kernel), List.mem_of_getElem? (i := 1422) (by decide +kernel), List.mem_of_getElem? (i := 143) (by decide +kernel), List.mem_of_getElem? (i := 1423) (by decide +kernel), by decide +kernel, by decide +kernel, by decide⟩
theorem fv_X5_firstUnlike : MsYV mX5_firstUnlike := ⟨List.mem_of_getElem? (i := 1246) (by decide +kernel), List.mem_of_getElem? (i := 1247) (by decide +kernel), List.mem_of_getElem? (i := 143) (by decide +kernel), List.mem_of_getElem? (i := 1248) (by decide +kernel), by decide +kernel, by decide +kernel, by decide⟩
theorem fv_X5_get : MsYV mX5_get := ⟨List.mem_of_getElem? (i := 607) (by decide +kernel), List.mem_of_getElem? (i := 608) (by decide +kernel), List.mem_of_getElem? (i := 143) (by decide +kernel), List.mem_of_getElem? (i := 609) (by decide +kernel), by decide +kernel, by decide +kernel, by decide⟩
theorem fv_X5_insert : MsYV mX5_insert := ⟨List.mem_of_getElem? (i := 1409) (by decide +kernel), List.mem_of_getElem? (i := 1410) (by decide +kernel), List.mem_of_getElem? (i := 143) (by decide +kernel), List.mem_of_getElem? (i := 1411) (by decide +kernel), by decide +kernel, by decide +kernel, by decide⟩
theorem fv_X5_put : MsYV mX5_put := ⟨List.mem_of_getElem? (i := 1110) (by decide +kernel), List.mem_of_getElem? (i := 1111) (by decide +kernel), List.mem_of_getElem? (i := 143) (by decide +kernel), List.mem_of_getElem? (i := 1112) (by decide +kernel), by decide +kernel, by decide +kernel, by decide⟩
theorem fv_X5_takeOver : MsYV mX5_takeOver := ⟨List.mem_of_getElem? (i := 635) (by decide +kernel), List.mem_of_getElem? (i := 636) (by decide +kernel), List.mem_of_getElem? (i := 143) (by decide +kernel), List.mem_of_getElem? (i := 637) (by decide +kernel), by decide +kernel, by decide +kernel, by decide⟩
theorem fv_X6_classOf : MsYV mX6_classOf := ⟨List.mem_of_getElem? (i := 931) (by decide +kernel), List.mem_of_getElem? (i := 932) (by decide +kernel), List.mem_of_getElem? (i := 141) (by decide +kernel), List.mem_of_getElem? (i := 933) (by decide +kernel), by decide +kernel, by decide +kernel, by decide⟩
theorem fv_X6_clusterAt : MsYV mX6_clusterAt := ⟨List.mem_of_getElem? (i := 1257) (by decide +kernel), List.mem_of_getElem? (i := 1258) (by decide +kernel), List.mem_of_getElem? (i := 141) (by decide +kernel), List.mem_of_getElem? (i := 1259) (by decide +kernel), by decide +kernel, by decide +kernel, by decide⟩
theorem fv_X6_countExpandedWith : MsYV mX6_countExpandedWith := ⟨List.mem_of_getElem? (i := 1078) (by decide +kernel), List.mem_of_getElem? (i := 1079) (by decide +kernel), List.mem_of_getElem? (i := 141) (by decide +kernel), List.mem_of_getElem? (i := 1080) (by decide +kernel), by decide +kernel, by decide +kernel, by decide⟩
theorem fv_X6_countKind : MsYV mX6_countKind := ⟨List.mem_of_getElem? (i := 1007) (by decide +kernel), List.mem_of_getElem? (i := 1008) (by decide +kernel), List.mem_of_getElem? (i := 141) (by decide +kernel), List.mem_of_getElem? (i := 1009) (by decide +kernel), by decide +kernel, by decide +kernel, by decide⟩
theorem fv_X6_countLinesWith : MsYV mX6_countLinesWith := ⟨List.mem_of_getElem? (i := 1027) (by decide +kernel), List.mem_of_getElem? (i := 1028) (by decide +kernel), List.mem_of_getElem? (i := 141) (by decide +kernel), List.mem_of_getElem? (i := 1029) (by decide +kernel), by decide +kernel, by decide +kernel, by decide⟩
theorem fv_X6_countSpare : MsYV mX6_countSpare := ⟨List.mem_of_getElem? (i := 1011) (by decide +kernel), List.mem_of_getElem? (i := 1012) (by decide +kernel), List.mem_of_getElem? (i := 141) (by decide +kernel), List.mem_of_getElem? (i := 1013) (by decide +kernel), by decide +kernel, by decide +kernel, by decide⟩
theorem fv_X6_empty : MsYV mX6_empty := ⟨List.mem_of_getElem? (i := 758) (by decide +kernel), List.mem_of_getElem? (i := 759) (by decide +kernel), List.mem_of_getElem? (i := 141) (by decide +kernel), List.mem_of_getElem? (i := 760) (by decide +kernel), by decide +kernel, by decide +kernel, by decide⟩
theorem fv_X6_findMade : MsYV mX6_findMade := ⟨List.mem_of_getElem? (i := 1131) (by decide +kernel), List.mem_of_getElem? (i := 1132) (by decide +kernel), List.mem_of_getElem? (i := 141) (by decide +kernel), List.mem_of_getElem? (i := 1133) (by decide +kernel), by decide +kernel, by decide +kernel, by decide⟩
theorem fv_X6_findName : MsYV mX6_findName := ⟨List.mem_of_getElem? (i := 880) (by decide +kernel), List.mem_of_getElem? (i := 881) (by decide +kernel), List.mem_of_getElem? (i := 141) (by decide +kernel), List.mem_of_getElem? (i := 882) (by decide +kernel), by decide +kernel, by decide +kernel, by decide⟩
theorem fv_X6_findPair : MsYV mX6_findPair := ⟨List.mem_of_getElem? (i := 952) (by decide +kernel), List.mem_of_getElem? (i := 953) (by decide +kernel), List.mem_of_getElem? (i := 141) (by decide +kernel), List.mem_of_getElem? (i := 954) (by decide +kernel), by decide +kernel, by decide +kernel, by decide⟩
theorem fv_X6_kindOf : MsYV mX6_kindOf := ⟨List.mem_of_getElem? (i := 927) (by decide +kernel), List.mem_of_getElem? (i := 928) (by decide +kernel), List.mem_of_getElem? (i := 141) (by decide +kernel), List.mem_of_getElem? (i := 929) (by decide +kernel), by decide +kernel, by decide +kernel, by decide⟩
theorem fv_X6_lineAt : MsYV mX6_lineAt := ⟨List.mem_of_getElem? (i := 631) (by decide +kernel), List.mem_of_getElem? (i := 632) (by decide +kernel), List.mem_of_getElem? (i := 141) (by decide +kernel), List.mem_of_getElem? (i := 633) (by decide +kernel), by decide +kernel, by decide +kernel, by decide⟩
theorem fv_X6_mayHaveClass : MsYV mX6_mayHaveClass := ⟨List.mem_of_getElem? (i := 1366) (by decide +kernel), List.mem_of_getElem? (i := 1367) (by decide +kernel), List.mem_of_getElem? (i := 141) (by decide +kernel), List.mem_of_getElem? (i := 1368) (by decide +kernel), by decide +kernel, by decide +kernel, by decide⟩
theorem fv_X6_sideOfClass : MsYV mX6_sideOfClass := ⟨List.mem_of_getElem? (i := 923) (by decide +kernel), List.mem_of_getElem? (i := 924) (by decide +kernel), List.mem_of_getElem? (i := 141) (by decide +kernel), List.mem_of_getElem? (i := 925) (by decide +kernel), by decide +kernel, by decide +kernel, by decide⟩
theorem fv_X6_takeOver : MsYV mX6_takeOver := ⟨List.mem_of_getElem? (i := 970) (by decide +kernel), List.mem_of_getElem? (i := 971) (by decide +kernel), List.mem_of_getElem? (i := 141) (by decide +kernel), List.mem_of_getElem? (i := 972) (by decide +kernel), by decide +kernel, by decide +kernel, by decide⟩
theorem fv_X6_told : MsYV mX6_told := ⟨List.mem_of_getElem? (i := 652) (by decide +kernel), List.mem_of_getElem? (i := 653) (by decide +kernel), List.mem_of_getElem? (i := 141) (by decide +kernel), List.mem_of_getElem? (i := 654) (by decide +kernel), by decide +kernel, by decide +kernel, by decide⟩
theorem fv_X6_widthOf : MsYV mX6_widthOf := ⟨List.mem_of_getElem? (i := 1164) (by decide +kernel), List.mem_of_getElem? (i := 1165) (by decide +kernel), List.mem_of_getElem? (i := 141) (by decide +kernel), List.mem_of_getElem? (i := 1166) (by decide +kernel), by decide +kernel, by decide +kernel, by decide⟩
theorem fv_X7_addPart : MsYV mX7_addPart := ⟨List.mem_of_getElem? (i := 895) (by decide +kernel), List.mem_of_getElem? (i := 896) (by decide +kernel), List.mem_of_getElem? (i := 142) (by decide +kernel), List.mem_of_getElem? (i := 897) (by decide +kernel), by decide +kernel, by decide +kernel, by decide⟩
theorem fv_X7_begin : MsYV mX7_begin := ⟨List.mem_of_getElem? (i := 885) (by decide +kernel), List.mem_of_getElem? (i := 886) (by decide +kernel), List.mem_of_getElem? (i := 142) (by decide +kernel), List.mem_of_getElem? (i := 887) (by decide +kernel), by decide +kernel, by decide +kernel, by decide⟩
theorem fv_X7_letterAt : MsYV mX7_letterAt := ⟨List.mem_of_getElem? (i := 1047) (by decide +kernel), List.mem_of_getElem? (i := 1048) (by decide +kernel), List.mem_of_getElem? (i := 142) (by decide +kernel), List.mem_of_getElem? (i := 1049) (by decide +kernel), by decide +kernel, by decide +kernel, by decide⟩
theorem fv_X7_number : MsYV mX7_number := ⟨List.mem_of_getElem? (i := 1035) (by decide +kernel), List.mem_of_getElem? (i := 1036) (by decide +kernel), List.mem_of_getElem? (i := 142) (by decide +kernel), List.mem_of_getElem? (i := 1037) (by decide +kernel), by decide +kernel, by decide +kernel, by decide⟩
theorem fv_X7_part : MsYV mX7_part := ⟨List.mem_of_getElem? (i := 1058) (by decide +kernel), List.mem_of_getElem? (i := 1059) (by decide +kernel), List.mem_of_getElem? (i := 142) (by decide +kernel), List.mem_of_getElem? (i := 1060) (by decide +kernel), by decide +kernel, by decide +kernel, by decide⟩
theorem fv_X7_takeOver : MsYV mX7_takeOver := ⟨List.mem_of_getElem? (i := 974) (by decide +kernel), List.mem_of_getElem? (i := 975) (by decide +kernel), List.mem_of_getElem? (i := 142) (by decide +kernel), List.mem_of_getElem? (i := 976) (by decide +kernel), by decide +kernel, by decide +kernel, by decide⟩
theorem fv_X8_beginSign : MsYV mX8_beginSign := ⟨List.mem_of_getElem? (i := 853) (by decide +kernel), List.mem_of_getElem? (i := 6) (by decide +kernel), List.mem_of_getElem? (i := 145) (by decide +kernel), List.mem_of_getElem? (i := 854) (by decide +kernel), by decide +kernel, by decide +kernel, by decide⟩
theorem fv_X8_endSign : MsYV mX8_endSign := ⟨List.mem_of_getElem? (i := 901) (by decide +kernel), List.mem_of_getElem? (i := 8) (by decide +kernel), List.mem_of_getElem? (i := 145) (by decide +kernel), List.mem_of_getElem? (i := 902) (by decide +kernel), by decide +kernel, by decide +kernel, by decide⟩
theorem fv_X8_findSign : MsYV mX8_findSign := ⟨List.mem_of_getElem? (i := 944) (by decide +kernel), List.mem_of_getElem? (i := 13) (by decide +kernel), List.mem_of_getElem? (i := 145) (by decide +kernel), List.mem_of_getElem? (i := 945) (by decide +kernel), by decide +kernel, by decide +kernel, by decide⟩
theorem fv_X8_isSignAhead : MsYV mX8_isSignAhead := ⟨List.mem_of_getElem? (i := 790) (by decide +kernel), List.mem_of_getElem? (i := 4) (by decide +kernel), List.mem_of_getElem? (i := 145) (by decide +kernel), List.mem_of_getElem? (i := 791) (by decide +kernel), by decide +kernel, by decide +kernel, by decide⟩
theorem fv_X8_readBase : MsYV mX8_readBase := ⟨List.mem_of_getElem? (i := 849) (by decide +kernel), List.mem_of_getElem? (i := 5) (by decide +kernel), List.mem_of_getElem? (i := 145) (by decide +kernel), List.mem_of_getElem? (i := 850) (by decide +kernel), by decide +kernel, by decide +kernel, by decide⟩
theorem fv_X8_readLine : MsYV mX8_readLine := ⟨List.mem_of_getElem? (i := 960) (by decide +kernel), List.mem_of_getElem? (i := 15) (by decide +kernel), List.mem_of_getElem? (i := 145) (by decide +kernel), List.mem_of_getElem? (i := 961) (by decide +kernel), by decide +kernel, by decide +kernel, by decide⟩
theorem fv_X8_readMark : MsYV mX8_readMark := ⟨List.mem_of_getElem? (i := 913) (by decide +kernel), List.mem_of_getElem? (i := 9) (by decide +kernel), List.mem_of_getElem? (i := 145) (by decide +kernel), List.mem_of_getElem? (i := 914) (by decide +kernel), by decide +kernel, by decide +kernel, by decide⟩
theorem fv_X8_readPair : MsYV mX8_readPair := ⟨List.mem_of_getElem? (i := 936) (by decide +kernel), List.mem_of_getElem? (i := 11) (by decide +kernel), List.mem_of_getElem? (i := 145) (by decide +kernel), List.mem_of_getElem? (i := 937) (by decide +kernel), by decide +kernel, by decide +kernel, by decide⟩
theorem fv_X8_readText : MsYV mX8_readText := ⟨List.mem_of_getElem? (i := 754) (by decide +kernel), List.mem_of_getElem? (i := 755) (by decide +kernel), List.mem_of_getElem? (i := 145) (by decide +kernel), List.mem_of_getElem? (i := 756) (by decide +kernel), by decide +kernel, by decide +kernel, by decide⟩
theorem fv_X8_takeFirst : MsYV mX8_takeFirst := ⟨List.mem_of_getElem? (i := 940) (by decide +kernel), List.mem_of_getElem? (i := 12) (by decide +kernel), List.mem_of_getElem? (i := 145) (by decide +kernel), List.mem_of_getElem? (i := 941) (by decide +kernel), by decide +kernel, by decide +kernel, by decide⟩
theorem fv_X8_takeName : MsYV mX8_takeName := ⟨List.mem_of_getElem? (i := 859) (by decide +kernel), List.mem_of_getElem? (i := 7) (by decide +kernel), List.mem_of_getElem? (i := 145) (by decide +kernel), List.mem_of_getElem? (i := 860) (by decide +kernel), by decide +kernel, by decide +kernel, by decide⟩
theorem fv_X8_takeSecond : MsYV mX8_takeSecond := ⟨List.mem_of_getElem? (i := 949) (by decide +kernel), List.mem_of_getElem? (i := 14) (by decide +kernel), List.mem_of_getElem? (i := 145) (by decide +kernel), List.mem_of_getElem? (i := 950) (by decide +kernel), by decide +kernel, by decide +kernel, by decide⟩
theorem fv_X8_takeSide : MsYV mX8_takeSide := ⟨List.mem_of_getElem? (i := 917) (by decide +kernel), List.mem_of_getElem? (i := 10) (by decide +kernel), List.mem_of_getElem? (i := 145) (by decide +kernel), List.mem_of_getElem? (i := 918) (by decide +kernel), by decide +kernel, by decide +kernel, by decide⟩
theorem fv_X9_advance : MsYV mX9_advance := ⟨List.mem_of_getElem? (i := 768) (by decide +kernel), List.mem_of_getElem? (i := 769) (by decide +kernel), List.mem_of_getElem? (i := 140) (by decide +kernel), List.mem_of_getElem? (i := 770) (by decide +kernel), by decide +kernel, by decide +kernel, by decide⟩
theorem fv_X9_append : MsYV mX9_append := ⟨List.mem_of_getElem? (i := 595) (by decide +kernel), List.mem_of_getElem? (i := 596) (by decide +kernel), List.mem_of_getElem? (i := 140) (by decide +kernel), List.mem_of_getElem? (i := 597) (by decide +kernel), by decide +kernel, by decide +kernel, by decide⟩
theorem fv_X9_begin : MsYV mX9_begin := ⟨List.mem_of_getElem? (i := 764) (by decide +kernel), List.mem_of_getElem? (i := 765) (by decide +kernel), List.mem_of_getElem? (i := 140) (by decide +kernel), List.mem_of_getElem? (i := 766) (by decide +kernel), by decide +kernel, by decide +kernel, by decide⟩
theorem fv_X9_byteAt : MsYV mX9_byteAt := ⟨List.mem_of_getElem? (i := 773) (by decide +kernel), List.mem_of_getElem? (i := 3) (by decide +kernel), List.mem_of_getElem? (i := 140) (by decide +kernel), List.mem_of_getElem? (i := 774) (by decide +kernel), by decide +kernel, by decide +kernel, by decide⟩
theorem fv_X9_fail : MsYV mX9_fail := ⟨List.mem_of_getElem? (i := 876) (by decide +kernel), List.mem_of_getElem? (i := 877) (by decide +kernel), List.mem_of_getElem? (i := 140) (by decide +kernel), List.mem_of_getElem? (i := 878) (by decide +kernel), by decide +kernel, by decide +kernel, by decide⟩
theorem fv_X9_hasRoomFor : MsYV mX9_hasRoomFor := ⟨List.mem_of_getElem? (i := 591) (by decide +kernel), List.mem_of_getElem? (i := 592) (by decide +kernel), List.mem_of_getElem? (i := 140) (by decide +kernel), List.mem_of_getElem? (i := 593) (by decide +kernel), by decide +kernel, by decide +kernel, by decide⟩
theorem fs_X9_isDigit : MsYS mX9_isDigit := ⟨List.mem_of_getElem? (i := 782) (by decide +kernel), List.mem_of_getElem? (i := 140) (by decide +kernel), List.mem_of_getElem? (i := 783) (by decide +kernel), by decide +kernel, by decide +kernel, by decide⟩
theorem fs_X9_isLetter : MsYS mX9_isLetter := ⟨List.mem_of_getElem? (i := 779) (by decide +kernel), List.mem_of_getElem? (i := 140) (by decide +kernel), List.mem_of_getElem? (i := 780) (by decide +kernel), by decide +kernel, by decide +kernel, by decide⟩
theorem fv_X9_isName : MsYV mX9_isName := ⟨List.mem_of_getElem? (i := 866) (by decide +kernel), List.mem_of_getElem? (i := 867) (by decide +kernel), List.mem_of_getElem? (i := 140) (by decide +kernel), List.mem_of_getElem? (i := 868) (by decide +kernel), by decide +kernel, by decide +kernel, by decide⟩
theorem fs_X9_isSeparator : MsYS mX9_isSeparator := ⟨List.mem_of_getElem? (i := 776) (by decide +kernel), List.mem_of_getElem? (i := 140) (by decide +kernel), List.mem_of_getElem? (i := 777) (by decide +kernel), by decide +kernel, by decide +kernel, by decide⟩
theorem fv_X9_isSymbol : MsYV mX9_isSymbol := ⟨List.mem_of_getElem? (i := 908) (by decide +kernel), List.mem_of_getElem? (i := 909) (by decide +kernel), List.mem_of_getElem? (i := 140) (by decide +kernel), List.mem_of_getElem? (i := 910) (by decide +kernel), by decide +kernel, by decide +kernel, by decide⟩
theorem fv_X9_isWord : MsYV mX9_isWord := ⟨List.mem_of_getElem? (i := 794) (by decide +kernel), List.mem_of_getElem? (i := 795) (by decide +kernel), List.mem_of_getElem? (i := 140) (by decide +kernel), List.mem_of_getElem? (i := 796) (by decide +kernel), by decide +kernel, by decide +kernel, by decide⟩
theorem fv_X9_packedName : MsYV mX9_packedName := ⟨List.mem_of_getElem? (i := 862) (by decide +kernel), List.mem_of_getElem? (i := 863) (by decide +kernel), List.mem_of_getElem? (i := 140) (by decide +kernel), List.mem_of_getElem? (i := 864) (by decide +kernel), by decide +kernel, by decide +kernel, by decide⟩
theorem fv_X9_takeEnd : MsYV mX9_takeEnd := ⟨List.mem_of_getElem? (i := 966) (by decide +kernel), List.mem_of_getElem? (i := 967) (by decide +kernel), List.mem_of_getElem? (i := 140) (by decide +kernel), List.mem_of_getElem? (i := 968) (by decide +kernel), by decide +kernel, by decide +kernel, by decide⟩
theorem fv_X9_takeNumber : MsYV mX9_takeNumber := ⟨List.mem_of_getElem? (i := 890) (by decide +kernel), List.mem_of_getElem? (i := 891) (by decide +kernel), List.mem_of_getElem? (i := 140) (by decide +kernel), List.mem_of_getElem? (i := 892) (by decide +kernel), by decide +kernel, by decide +kernel, by decide⟩
theorem fv_X9_takeSymbol : MsYV mX9_takeSymbol := ⟨List.mem_of_getElem? (i := 904) (by decide +kernel), List.mem_of_getElem? (i := 905) (by decide +kernel), List.mem_of_getElem? (i := 140) (by decide +kernel), List.mem_of_getElem? (i := 906) (by decide +kernel), by decide +kernel, by decide +kernel, by decide⟩
theorem rk_0_0 {a : Nat} (h : ms_kd a = 1) : ms_kd (ms_rf a 0) = 7 := (by decide +kernel : ∀ a, a < 519 → ms_kd a = 1 → ms_kd (ms_rf a 0) = 7) a (ms_kd_lt (by omega)) h
theorem rk_0_1 {a : Nat} (h : ms_kd a = 1) : ms_kd (ms_rf a 1) = 6 := (by decide +kernel : ∀ a, a < 519 → ms_kd a = 1 → ms_kd (ms_rf a 1) = 6) a (ms_kd_lt (by omega)) h
theorem rk_0_2 {a : Nat} (h : ms_kd a = 1) : ms_kd (ms_rf a 2) = 6 := (by decide +kernel : ∀ a, a < 519 → ms_kd a = 1 → ms_kd (ms_rf a 2) = 6) a (ms_kd_lt (by omega)) h
theorem rk_0_3 {a : Nat} (h : ms_kd a = 1) : ms_kd (ms_rf a 3) = 6 := (by decide +kernel : ∀ a, a < 519 → ms_kd a = 1 → ms_kd (ms_rf a 3) = 6) a (ms_kd_lt (by omega)) h
theorem rk_0_4 {a : Nat} (h : ms_kd a = 1) : ms_kd (ms_rf a 4) = 6 := (by decide +kernel : ∀ a, a < 519 → ms_kd a = 1 → ms_kd (ms_rf a 4) = 6) a (ms_kd_lt (by omega)) h
theorem rk_0_5 {a : Nat} (h : ms_kd a = 1) : ms_kd (ms_rf a 5) = 6 := (by decide +kernel : ∀ a, a < 519 → ms_kd a = 1 → ms_kd (ms_rf a 5) = 6) a (ms_kd_lt (by omega)) h
theorem rk_1_0 {a : Nat} (h : ms_kd a = 2) : ms_kd (ms_rf a 0) = 7 := (by decide +kernel : ∀ a, a < 519 → ms_kd a = 2 → ms_kd (ms_rf a 0) = 7) a (ms_kd_lt (by omega)) h
theorem rk_1_1 {a : Nat} (h : ms_kd a = 2) : ms_kd (ms_rf a 1) = 6 := (by decide +kernel : ∀ a, a < 519 → ms_kd a = 2 → ms_kd (ms_rf a 1) = 6) a (ms_kd_lt (by omega)) h
theorem rk_1_2 {a : Nat} (h : ms_kd a = 2) : ms_kd (ms_rf a 2) = 6 := (by decide +kernel : ∀ a, a < 519 → ms_kd a = 2 → ms_kd (ms_rf a 2) = 6) a (ms_kd_lt (by omega)) h
theorem rk_1_3 {a : Nat} (h : ms_kd a = 2) : ms_kd (ms_rf a 3) = 6 := (by decide +kernel : ∀ a, a < 519 → ms_kd a = 2 → ms_kd (ms_rf a 3) = 6) a (ms_kd_lt (by omega)) h
theorem rk_1_4 {a : Nat} (h : ms_kd a = 2) : ms_kd (ms_rf a 4) = 6 := (by decide +kernel : ∀ a, a < 519 → ms_kd a = 2 → ms_kd (ms_rf a 4) = 6) a (ms_kd_lt (by omega)) h
theorem rk_1_5 {a : Nat} (h : ms_kd a = 2) : ms_kd (ms_rf a 5) = 6 := (by decide +kernel : ∀ a, a < 519 → ms_kd a = 2 → ms_kd (ms_rf a 5) = 6) a (ms_kd_lt (by omega)) h
theorem rk_1_6 {a : Nat} (h : ms_kd a = 2) : ms_kd (ms_rf a 6) = 6 := (by decide +kernel : ∀ a, a < 519 → ms_kd a = 2 → ms_kd (ms_rf a 6) = 6) a (ms_kd_lt (by omega)) h
theorem rk_2_0 {a : Nat} (h : ms_kd a = 3) : ms_kd (ms_rf a 0) = 26 := (by decide +kernel : ∀ a, a < 519 → ms_kd a = 3 → ms_kd (ms_rf a 0) = 26) a (ms_kd_lt (by omega)) h
theorem rk_3_0 {a : Nat} (h : ms_kd a = 4) : ms_kd (ms_rf a 0) = 25 := (by decide +kernel : ∀ a, a < 519 → ms_kd a = 4 → ms_kd (ms_rf a 0) = 25) a (ms_kd_lt (by omega)) h
theorem rk_3_1 {a : Nat} (h : ms_kd a = 4) : ms_kd (ms_rf a 1) = 6 := (by decide +kernel : ∀ a, a < 519 → ms_kd a = 4 → ms_kd (ms_rf a 1) = 6) a (ms_kd_lt (by omega)) h
theorem rk_3_2 {a : Nat} (h : ms_kd a = 4) : ms_kd (ms_rf a 2) = 6 := (by decide +kernel : ∀ a, a < 519 → ms_kd a = 4 → ms_kd (ms_rf a 2) = 6) a (ms_kd_lt (by omega)) h
theorem rk_4_0 {a : Nat} (h : ms_kd a = 5) : ms_kd (ms_rf a 0) = 10 := (by decide +kernel : ∀ a, a < 519 → ms_kd a = 5 → ms_kd (ms_rf a 0) = 10) a (ms_kd_lt (by omega)) h
theorem rk_4_1 {a : Nat} (h : ms_kd a = 5) : ms_kd (ms_rf a 1) = 7 := (by decide +kernel : ∀ a, a < 519 → ms_kd a = 5 → ms_kd (ms_rf a 1) = 7) a (ms_kd_lt (by omega)) h
theorem rk_4_2 {a : Nat} (h : ms_kd a = 5) : ms_kd (ms_rf a 2) = 6 := (by decide +kernel : ∀ a, a < 519 → ms_kd a = 5 → ms_kd (ms_rf a 2) = 6) a (ms_kd_lt (by omega)) h
theorem rk_4_3 {a : Nat} (h : ms_kd a = 5) : ms_kd (ms_rf a 3) = 6 := (by decide +kernel : ∀ a, a < 519 → ms_kd a = 5 → ms_kd (ms_rf a 3) = 6) a (ms_kd_lt (by omega)) h
theorem rk_4_4 {a : Nat} (h : ms_kd a = 5) : ms_kd (ms_rf a 4) = 6 := (by decide +kernel : ∀ a, a < 519 → ms_kd a = 5 → ms_kd (ms_rf a 4) = 6) a (ms_kd_lt (by omega)) h
theorem rk_4_5 {a : Nat} (h : ms_kd a = 5) : ms_kd (ms_rf a 5) = 6 := (by decide +kernel : ∀ a, a < 519 → ms_kd a = 5 → ms_kd (ms_rf a 5) = 6) a (ms_kd_lt (by omega)) h
theorem rk_5_0 {a : Nat} (h : ms_kd a = 6) : ms_kd (ms_rf a 0) = 20 := (by decide +kernel : ∀ a, a < 519 → ms_kd a = 6 → ms_kd (ms_rf a 0) = 20) a (ms_kd_lt (by omega)) h
theorem rk_6_0 {a : Nat} (h : ms_kd a = 7) : ms_kd (ms_rf a 0) = 24 := (by decide +kernel : ∀ a, a < 519 → ms_kd a = 7 → ms_kd (ms_rf a 0) = 24) a (ms_kd_lt (by omega)) h
theorem rk_6_1 {a : Nat} (h : ms_kd a = 7) : ms_kd (ms_rf a 1) = 25 := (by decide +kernel : ∀ a, a < 519 → ms_kd a = 7 → ms_kd (ms_rf a 1) = 25) a (ms_kd_lt (by omega)) h
theorem rk_6_2 {a : Nat} (h : ms_kd a = 7) : ms_kd (ms_rf a 2) = 8 := (by decide +kernel : ∀ a, a < 519 → ms_kd a = 7 → ms_kd (ms_rf a 2) = 8) a (ms_kd_lt (by omega)) h
theorem rk_6_3 {a : Nat} (h : ms_kd a = 7) : ms_kd (ms_rf a 3) = 6 := (by decide +kernel : ∀ a, a < 519 → ms_kd a = 7 → ms_kd (ms_rf a 3) = 6) a (ms_kd_lt (by omega)) h
theorem rk_7_0 {a : Nat} (h : ms_kd a = 8) : ms_kd (ms_rf a 0) = 6 := (by decide +kernel : ∀ a, a < 519 → ms_kd a = 8 → ms_kd (ms_rf a 0) = 6) a (ms_kd_lt (by omega)) h
theorem rk_8_0 {a : Nat} (h : ms_kd a = 9) : ms_kd (ms_rf a 0) = 10 := (by decide +kernel : ∀ a, a < 519 → ms_kd a = 9 → ms_kd (ms_rf a 0) = 10) a (ms_kd_lt (by omega)) h
theorem rk_8_1 {a : Nat} (h : ms_kd a = 9) : ms_kd (ms_rf a 1) = 7 := (by decide +kernel : ∀ a, a < 519 → ms_kd a = 9 → ms_kd (ms_rf a 1) = 7) a (ms_kd_lt (by omega)) h
theorem rk_9_0 {a : Nat} (h : ms_kd a = 10) : ms_kd (ms_rf a 0) = 21 := (by decide +kernel : ∀ a, a < 519 → ms_kd a = 10 → ms_kd (ms_rf a 0) = 21) a (ms_kd_lt (by omega)) h
theorem rk_10_0 {a : Nat} (h : ms_kd a = 11) : ms_kd (ms_rf a 0) = 10 := (by decide +kernel : ∀ a, a < 519 → ms_kd a = 11 → ms_kd (ms_rf a 0) = 10) a (ms_kd_lt (by omega)) h
theorem rk_10_1 {a : Nat} (h : ms_kd a = 11) : ms_kd (ms_rf a 1) = 7 := (by decide +kernel : ∀ a, a < 519 → ms_kd a = 11 → ms_kd (ms_rf a 1) = 7) a (ms_kd_lt (by omega)) h
theorem rk_10_2 {a : Nat} (h : ms_kd a = 11) : ms_kd (ms_rf a 2) = 9 := (by decide +kernel : ∀ a, a < 519 → ms_kd a = 11 → ms_kd (ms_rf a 2) = 9) a (ms_kd_lt (by omega)) h
theorem rk_10_3 {a : Nat} (h : ms_kd a = 11) : ms_kd (ms_rf a 3) = 5 := (by decide +kernel : ∀ a, a < 519 → ms_kd a = 11 → ms_kd (ms_rf a 3) = 5) a (ms_kd_lt (by omega)) h
theorem rk_10_4 {a : Nat} (h : ms_kd a = 11) : ms_kd (ms_rf a 4) = 3 := (by decide +kernel : ∀ a, a < 519 → ms_kd a = 11 → ms_kd (ms_rf a 4) = 3) a (ms_kd_lt (by omega)) h
theorem rk_10_5 {a : Nat} (h : ms_kd a = 11) : ms_kd (ms_rf a 5) = 4 := (by decide +kernel : ∀ a, a < 519 → ms_kd a = 11 → ms_kd (ms_rf a 5) = 4) a (ms_kd_lt (by omega)) h
theorem rk_10_6 {a : Nat} (h : ms_kd a = 11) : ms_kd (ms_rf a 6) = 2 := (by decide +kernel : ∀ a, a < 519 → ms_kd a = 11 → ms_kd (ms_rf a 6) = 2) a (ms_kd_lt (by omega)) h
theorem rk_10_7 {a : Nat} (h : ms_kd a = 11) : ms_kd (ms_rf a 7) = 2 := (by decide +kernel : ∀ a, a < 519 → ms_kd a = 11 → ms_kd (ms_rf a 7) = 2) a (ms_kd_lt (by omega)) h
theorem rk_10_8 {a : Nat} (h : ms_kd a = 11) : ms_kd (ms_rf a 8) = 1 := (by decide +kernel : ∀ a, a < 519 → ms_kd a = 11 → ms_kd (ms_rf a 8) = 1) a (ms_kd_lt (by omega)) h
theorem rk_10_9 {a : Nat} (h : ms_kd a = 11) : ms_kd (ms_rf a 9) = 1 := (by decide +kernel : ∀ a, a < 519 → ms_kd a = 11 → ms_kd (ms_rf a 9) = 1) a (ms_kd_lt (by omega)) h
theorem rk_10_10 {a : Nat} (h : ms_kd a = 11) : ms_kd (ms_rf a 10) = 6 := (by decide +kernel : ∀ a, a < 519 → ms_kd a = 11 → ms_kd (ms_rf a 10) = 6) a (ms_kd_lt (by omega)) h
theorem rk_10_11 {a : Nat} (h : ms_kd a = 11) : ms_kd (ms_rf a 11) = 6 := (by decide +kernel : ∀ a, a < 519 → ms_kd a = 11 → ms_kd (ms_rf a 11) = 6) a (ms_kd_lt (by omega)) h
theorem rk_11_0 {a : Nat} (h : ms_kd a = 12) : ms_kd (ms_rf a 0) = 20 := (by decide +kernel : ∀ a, a < 519 → ms_kd a = 12 → ms_kd (ms_rf a 0) = 20) a (ms_kd_lt (by omega)) h
theorem rk_12_0 {a : Nat} (h : ms_kd a = 13) : ms_kd (ms_rf a 0) = 20 := (by decide +kernel : ∀ a, a < 519 → ms_kd a = 13 → ms_kd (ms_rf a 0) = 20) a (ms_kd_lt (by omega)) h
theorem rk_12_1 {a : Nat} (h : ms_kd a = 13) : ms_kd (ms_rf a 1) = 20 := (by decide +kernel : ∀ a, a < 519 → ms_kd a = 13 → ms_kd (ms_rf a 1) = 20) a (ms_kd_lt (by omega)) h
theorem rk_12_2 {a : Nat} (h : ms_kd a = 13) : ms_kd (ms_rf a 2) = 20 := (by decide +kernel : ∀ a, a < 519 → ms_kd a = 13 → ms_kd (ms_rf a 2) = 20) a (ms_kd_lt (by omega)) h
theorem rk_12_3 {a : Nat} (h : ms_kd a = 13) : ms_kd (ms_rf a 3) = 20 := (by decide +kernel : ∀ a, a < 519 → ms_kd a = 13 → ms_kd (ms_rf a 3) = 20) a (ms_kd_lt (by omega)) h
theorem rk_12_4 {a : Nat} (h : ms_kd a = 13) : ms_kd (ms_rf a 4) = 20 := (by decide +kernel : ∀ a, a < 519 → ms_kd a = 13 → ms_kd (ms_rf a 4) = 20) a (ms_kd_lt (by omega)) h
theorem rk_12_5 {a : Nat} (h : ms_kd a = 13) : ms_kd (ms_rf a 5) = 20 := (by decide +kernel : ∀ a, a < 519 → ms_kd a = 13 → ms_kd (ms_rf a 5) = 20) a (ms_kd_lt (by omega)) h
theorem rk_12_9 {a : Nat} (h : ms_kd a = 13) : ms_kd (ms_rf a 9) = 20 := (by decide +kernel : ∀ a, a < 519 → ms_kd a = 13 → ms_kd (ms_rf a 9) = 20) a (ms_kd_lt (by omega)) h
theorem rk_12_10 {a : Nat} (h : ms_kd a = 13) : ms_kd (ms_rf a 10) = 20 := (by decide +kernel : ∀ a, a < 519 → ms_kd a = 13 → ms_kd (ms_rf a 10) = 20) a (ms_kd_lt (by omega)) h
theorem rk_12_13 {a : Nat} (h : ms_kd a = 13) : ms_kd (ms_rf a 13) = 20 := (by decide +kernel : ∀ a, a < 519 → ms_kd a = 13 → ms_kd (ms_rf a 13) = 20) a (ms_kd_lt (by omega)) h
theorem rk_12_14 {a : Nat} (h : ms_kd a = 13) : ms_kd (ms_rf a 14) = 20 := (by decide +kernel : ∀ a, a < 519 → ms_kd a = 13 → ms_kd (ms_rf a 14) = 20) a (ms_kd_lt (by omega)) h
theorem rk_12_16 {a : Nat} (h : ms_kd a = 13) : ms_kd (ms_rf a 16) = 20 := (by decide +kernel : ∀ a, a < 519 → ms_kd a = 13 → ms_kd (ms_rf a 16) = 20) a (ms_kd_lt (by omega)) h
theorem rk_12_18 {a : Nat} (h : ms_kd a = 13) : ms_kd (ms_rf a 18) = 12 := (by decide +kernel : ∀ a, a < 519 → ms_kd a = 13 → ms_kd (ms_rf a 18) = 12) a (ms_kd_lt (by omega)) h
theorem rk_12_19 {a : Nat} (h : ms_kd a = 13) : ms_kd (ms_rf a 19) = 12 := (by decide +kernel : ∀ a, a < 519 → ms_kd a = 13 → ms_kd (ms_rf a 19) = 12) a (ms_kd_lt (by omega)) h
theorem rk_12_20 {a : Nat} (h : ms_kd a = 13) : ms_kd (ms_rf a 20) = 20 := (by decide +kernel : ∀ a, a < 519 → ms_kd a = 13 → ms_kd (ms_rf a 20) = 20) a (ms_kd_lt (by omega)) h
theorem rk_12_21 {a : Nat} (h : ms_kd a = 13) : ms_kd (ms_rf a 21) = 20 := (by decide +kernel : ∀ a, a < 519 → ms_kd a = 13 → ms_kd (ms_rf a 21) = 20) a (ms_kd_lt (by omega)) h
theorem rk_12_24 {a : Nat} (h : ms_kd a = 13) : ms_kd (ms_rf a 24) = 20 := (by decide +kernel : ∀ a, a < 519 → ms_kd a = 13 → ms_kd (ms_rf a 24) = 20) a (ms_kd_lt (by omega)) h
theorem rk_12_26 {a : Nat} (h : ms_kd a = 13) : ms_kd (ms_rf a 26) = 20 := (by decide +kernel : ∀ a, a < 519 → ms_kd a = 13 → ms_kd (ms_rf a 26) = 20) a (ms_kd_lt (by omega)) h
theorem rk_12_36 {a : Nat} (h : ms_kd a = 13) : ms_kd (ms_rf a 36) = 27 := (by decide +kernel : ∀ a, a < 519 → ms_kd a = 13 → ms_kd (ms_rf a 36) = 27) a (ms_kd_lt (by omega)) h
theorem rk_12_37 {a : Nat} (h : ms_kd a = 13) : ms_kd (ms_rf a 37) = 27 := (by decide +kernel : ∀ a, a < 519 → ms_kd a = 13 → ms_kd (ms_rf a 37) = 27) a (ms_kd_lt (by omega)) h
theorem rk_12_38 {a : Nat} (h : ms_kd a = 13) : ms_kd (ms_rf a 38) = 20 := (by decide +kernel : ∀ a, a < 519 → ms_kd a = 13 → ms_kd (ms_rf a 38) = 20) a (ms_kd_lt (by omega)) h
theorem rk_12_39 {a : Nat} (h : ms_kd a = 13) : ms_kd (ms_rf a 39) = 22 := (by decide +kernel : ∀ a, a < 519 → ms_kd a = 13 → ms_kd (ms_rf a 39) = 22) a (ms_kd_lt (by omega)) h
theorem re_24 {a : Nat} (h : ms_kd a = 24) {i : Int32} {v : Nat} (e : ms_ala a i = some v) : ms_kd v = 8 := by
  unfold ms_ala at e
  by_cases hc : i < 0 ∨ ms_ln a ≤ i.toNatClampNeg
  · rw [if_pos hc] at e; cases e
  · rw [if_neg hc] at e
    have h2 : ∀ a, a < 519 → ms_kd a = 24 → ∀ j, j < ms_ln a → ms_kd (ms_rf a j) = 8 := by decide +kernel
    rw [← Option.some.inj e]
    exact h2 a (ms_kd_lt (by omega)) h _ (Nat.not_le.mp fun q => hc (Or.inr q))
theorem re_25 {a : Nat} (h : ms_kd a = 25) {i : Int32} {v : Nat} (e : ms_ala a i = some v) : ms_kd v = 6 := by
  unfold ms_ala at e
  by_cases hc : i < 0 ∨ ms_ln a ≤ i.toNatClampNeg
  · rw [if_pos hc] at e; cases e
  · rw [if_neg hc] at e
    have h2 : ∀ a, a < 519 → ms_kd a = 25 → ∀ j, j < ms_ln a → ms_kd (ms_rf a j) = 6 := by decide +kernel
    rw [← Option.some.inj e]
    exact h2 a (ms_kd_lt (by omega)) h _ (Nat.not_le.mp fun q => hc (Or.inr q))
theorem re_26 {a : Nat} (h : ms_kd a = 26) {i : Int32} {v : Nat} (e : ms_ala a i = some v) : ms_kd v = 4 := by
  unfold ms_ala at e
  by_cases hc : i < 0 ∨ ms_ln a ≤ i.toNatClampNeg
  · rw [if_pos hc] at e; cases e
  · rw [if_neg hc] at e
    have h2 : ∀ a, a < 519 → ms_kd a = 26 → ∀ j, j < ms_ln a → ms_kd (ms_rf a j) = 4 := by decide +kernel
    rw [← Option.some.inj e]
    exact h2 a (ms_kd_lt (by omega)) h _ (Nat.not_le.mp fun q => hc (Or.inr q))
theorem re_27 {a : Nat} (h : ms_kd a = 27) {i : Int32} {v : Nat} (e : ms_ala a i = some v) : ms_isS v := by
  unfold ms_ala at e
  by_cases hc : i < 0 ∨ ms_ln a ≤ i.toNatClampNeg
  · rw [if_pos hc] at e; cases e
  · rw [if_neg hc] at e
    have h2 : ∀ a, a < 519 → ms_kd a = 27 → ∀ j, j < ms_ln a → 600 ≤ ms_rf a j ∧ ms_rf a j < 650 := by decide +kernel
    rw [← Option.some.inj e]
    exact h2 a (ms_kd_lt (by omega)) h _ (Nat.not_le.mp fun q => hc (Or.inr q))
theorem tha_X10_167 : ms_atX RX10 167 (ms_xn 0) 13 prog_31_method_4_code = ([153, 709, 718, 721, 724, 726, 710, 711, 171, 172, 712, 717, 722, 742, 699, 743, 701, 744, 703, 713, 715, 705, 738, 739, 741, 705, 1001, 1002, 1003, 732, 691, 732, 733, 734, 735, 693, 735, 736, 737, 738, 695, 1000, 991, 992, 993, 720, 994, 995, 996, 997, 708, 707, 998] : List Nat).filterMap (fun i => lw_tbl[i]?) := by decide +kernel
theorem thb_X10_167 : ∀ w ∈ ms_atX RX10 167 (ms_xn 0) 13 prog_31_method_4_code, w ∈ lw_tbl ∧ ms_tw w = true := by
  intro w hw
  refine ⟨?_, (by decide +kernel : ∀ w ∈ ms_atX RX10 167 (ms_xn 0) 13 prog_31_method_4_code, ms_tw w = true) w hw⟩
  rw [tha_X10_167] at hw
  obtain ⟨i, -, hi⟩ := List.mem_filterMap.mp hw
  exact List.mem_of_getElem? hi
theorem th_X10_163_165 : MsThX RX10 163 165 167 (ms_xn 0) "no such letter" 16 13 prog_31_method_4_code := ⟨by decide +kernel, List.mem_of_getElem? (i := 990) (by decide +kernel), List.mem_of_getElem? (i := 161) (by decide +kernel), by decide, by decide +kernel, thb_X10_167, by decide +kernel, by decide +kernel, by decide +kernel, by decide +kernel⟩
theorem th_X10_163_304 : MsThX RX10 163 304 167 (ms_xn 0) "no such match" 17 13 prog_31_method_4_code := ⟨by decide +kernel, List.mem_of_getElem? (i := 990) (by decide +kernel), List.mem_of_getElem? (i := 161) (by decide +kernel), by decide, by decide +kernel, thb_X10_167, by decide +kernel, by decide +kernel, by decide +kernel, by decide +kernel⟩
theorem th_X10_163_383 : MsThX RX10 163 383 167 (ms_xn 0) "no such element" 15 13 prog_31_method_4_code := ⟨by decide +kernel, List.mem_of_getElem? (i := 990) (by decide +kernel), List.mem_of_getElem? (i := 161) (by decide +kernel), by decide, by decide +kernel, thb_X10_167, by decide +kernel, by decide +kernel, by decide +kernel, by decide +kernel⟩
theorem tha_X10_382 : vx_atS RX10 382 (ms_xn 1) ms_names2 = ([153, 709, 718, 721, 724, 726, 710, 711, 171, 172, 712, 717, 722, 742, 699, 743, 701, 744, 703, 713, 715, 705, 738, 739, 741, 705, 729, 730, 731, 732, 691, 732, 733, 734, 735, 693, 735, 736, 737, 738, 695, 728, 688, 689, 696, 697, 698, 700, 702, 704, 708, 707, 706] : List Nat).filterMap (fun i => lw_tbl[i]?) := by decide +kernel
theorem thb_X10_382 : ∀ w ∈ vx_atS RX10 382 (ms_xn 1) ms_names2, w ∈ lw_tbl ∧ ms_tw w = true := by
  intro w hw
  refine ⟨?_, (by decide +kernel : ∀ w ∈ vx_atS RX10 382 (ms_xn 1) ms_names2, ms_tw w = true) w hw⟩
  rw [tha_X10_382] at hw
  obtain ⟨i, -, hi⟩ := List.mem_filterMap.mp hw
  exact List.mem_of_getElem? hi
theorem th_X10_378_380 : MsTh RX10 378 380 382 (ms_xn 1) "no such length" 0 := ⟨by decide +kernel, List.mem_of_getElem? (i := 687) (by decide +kernel), List.mem_of_getElem? (i := 156) (by decide +kernel), by decide, by decide +kernel, thb_X10_382, by decide +kernel⟩
theorem th_X10_378_385 : MsTh RX10 378 385 382 (ms_xn 1) "not allowed" 18 := ⟨by decide +kernel, List.mem_of_getElem? (i := 687) (by decide +kernel), List.mem_of_getElem? (i := 156) (by decide +kernel), by decide, by decide +kernel, thb_X10_382, by decide +kernel⟩
