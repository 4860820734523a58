set_option maxRecDepth 100000 in
theorem co_X6_noBlockIsOpen : x_code M_X6_noBlockIsOpen ∈ x_w := x_in 1052 rfl rfl
set_option maxRecDepth 100000 in
theorem co_X5_addStep : x_code M_X5_addStep ∈ x_w := x_in 845 rfl rfl
set_option maxRecDepth 100000 in
theorem co_X3_variable : x_code M_X3_variable ∈ x_w := x_in 861 rfl rfl
set_option maxRecDepth 100000 in
theorem co_X3_addKind : x_code M_X3_addKind ∈ x_w := x_in 865 rfl rfl
set_option maxRecDepth 100000 in
theorem co_X6_field : x_code M_X6_field ∈ x_w := x_in 874 rfl rfl
set_option maxRecDepth 100000 in
theorem co_X3_addField : x_code M_X3_addField ∈ x_w := x_in 892 rfl rfl
set_option maxRecDepth 100000 in
theorem co_X6_puts : x_code M_X6_puts ∈ x_w := x_in 909 rfl rfl
set_option maxRecDepth 100000 in
theorem co_X6_where : x_code M_X6_where ∈ x_w := x_in 1003 rfl rfl
set_option maxRecDepth 100000 in
theorem co_X1_read : x_code M_X1_read ∈ x_w := x_in 913 rfl rfl
set_option maxRecDepth 100000 in
theorem co_X5_addPut : x_code M_X5_addPut ∈ x_w := x_in 995 rfl rfl
set_option maxRecDepth 100000 in
theorem co_X7_openBlock : x_code M_X7_openBlock ∈ x_w := x_in 1025 rfl rfl
set_option maxRecDepth 100000 in
theorem co_X7_closeBlock : x_code M_X7_closeBlock ∈ x_w := x_in 1043 rfl rfl
set_option maxRecDepth 100000 in
theorem co_X3_addVariable : x_code M_X3_addVariable ∈ x_w := x_in 977 rfl rfl
set_option maxRecDepth 100000 in
theorem co_J0_length_8abf5 : x_code M_J0_length_8abf5 ∈ x_w := x_in 144 rfl rfl
set_option maxRecDepth 100000 in
theorem co_J0_charAt_5068e : x_code M_J0_charAt_5068e ∈ x_w := x_in 154 rfl rfl
set_option maxRecDepth 100000 in
theorem co_X9_longer : x_code M_X9_longer ∈ x_w := x_in 191 rfl rfl
set_option maxRecDepth 100000 in
theorem co_X9_behindBlanks : x_code M_X9_behindBlanks ∈ x_w := x_in 726 rfl rfl
set_option maxRecDepth 100000 in
theorem co_X9_cut : x_code M_X9_cut ∈ x_w := x_in 730 rfl rfl
set_option maxRecDepth 100000 in
theorem co_X9_isLetter : x_code M_X9_isLetter ∈ x_w := x_in 733 rfl rfl
set_option maxRecDepth 100000 in
theorem co_X9_cutName : x_code M_X9_cutName ∈ x_w := x_in 737 rfl rfl
set_option maxRecDepth 100000 in
theorem co_X9_isDigit : x_code M_X9_isDigit ∈ x_w := x_in 744 rfl rfl
set_option maxRecDepth 100000 in
theorem co_X9_cutNumber : x_code M_X9_cutNumber ∈ x_w := x_in 748 rfl rfl
set_option maxRecDepth 100000 in
theorem co_X9_cutSign : x_code M_X9_cutSign ∈ x_w := x_in 759 rfl rfl
set_option maxRecDepth 100000 in
theorem co_X9_wordOrName : x_code M_X9_wordOrName ∈ x_w := x_in 741 rfl rfl
set_option maxRecDepth 100000 in
theorem co_J9_min_f86c9 : x_code M_J9_min_f86c9 ∈ x_w := x_in 754 rfl rfl
set_option maxRecDepth 100000 in
theorem co_J0_indexOf_0f7a4 : x_code M_J0_indexOf_0f7a4 ∈ x_w := x_in 764 rfl rfl
set_option maxRecDepth 100000 in
theorem co_X10_taken : x_code M_X10_taken ∈ x_w := x_in 609 rfl rfl
set_option maxRecDepth 100000 in
theorem co_J13_numberOfTrailingZeros_95d88 : x_code M_J13_numberOfTrailingZeros_95d88 ∈ x_w := x_in 1113 rfl rfl
set_option maxRecDepth 100000 in
theorem co_X9_init : x_code M_X9_init ∈ x_w := x_in 138 rfl rfl
set_option maxRecDepth 100000 in
theorem co_X3_init : x_code M_X3_init ∈ x_w := x_in 228 rfl rfl
set_option maxRecDepth 100000 in
theorem co_X10_init : x_code M_X10_init ∈ x_w := x_in 267 rfl rfl
set_option maxRecDepth 100000 in
theorem co_X5_init : x_code M_X5_init ∈ x_w := x_in 292 rfl rfl
set_option maxRecDepth 100000 in
theorem co_X6_init : x_code M_X6_init ∈ x_w := x_in 420 rfl rfl
set_option maxRecDepth 100000 in
theorem co_X2_init : x_code M_X2_init ∈ x_w := x_in 502 rfl rfl
set_option maxRecDepth 100000 in
theorem co_X9_add : x_code M_X9_add ∈ x_w := x_in 707 rfl rfl
set_option maxRecDepth 100000 in
theorem co_X3_keep : x_code M_X3_keep ∈ x_w := x_in 718 rfl rfl
set_option maxRecDepth 100000 in
theorem co_X9_scan : x_code M_X9_scan ∈ x_w := x_in 722 rfl rfl
set_option maxRecDepth 100000 in
theorem co_X6_reads : x_code M_X6_reads ∈ x_w := x_in 824 rfl rfl
set_option maxRecDepth 100000 in
theorem co_X9_wrongPlace : x_code M_X9_wrongPlace ∈ x_w := x_in 1056 rfl rfl
set_option maxRecDepth 100000 in
theorem co_X3_takeBack : x_code M_X3_takeBack ∈ x_w := x_in 1060 rfl rfl
set_option maxRecDepth 100000 in
theorem co_X2_goThrough : x_code M_X2_goThrough ∈ x_w := x_in 1071 rfl rfl
set_option maxRecDepth 100000 in
theorem co_X10_kindOf : x_code M_X10_kindOf ∈ x_w := x_in 1184 rfl rfl
set_option maxRecDepth 100000 in
theorem co_X12_wordIs : x_code M_X12_wordIs ∈ x_w := x_in 1195 rfl rfl
set_option maxRecDepth 100000 in
theorem co_X12_nameOf : x_code M_X12_nameOf ∈ x_w := x_in 1198 rfl rfl
set_option maxRecDepth 100000 in
theorem co_X12_byteAt : x_code M_X12_byteAt ∈ x_w := x_in 1386 rfl rfl
set_option maxRecDepth 100000 in
theorem co_X12_letter : x_code M_X12_letter ∈ x_w := x_in 1393 rfl rfl
set_option maxRecDepth 100000 in
theorem co_X12_digit : x_code M_X12_digit ∈ x_w := x_in 1396 rfl rfl
set_option maxRecDepth 100000 in
theorem co_X12_token : x_code M_X12_token ∈ x_w := x_in 1390 rfl rfl
set_option maxRecDepth 100000 in
theorem co_X12_isSign : x_code M_X12_isSign ∈ x_w := x_in 1411 rfl rfl
set_option maxRecDepth 100000 in
theorem co_X12_wrong : x_code M_X12_wrong ∈ x_w := x_in 1419 rfl rfl
set_option maxRecDepth 100000 in
theorem co_X12_isWord : x_code M_X12_isWord ∈ x_w := x_in 1427 rfl rfl
set_option maxRecDepth 100000 in
theorem co_X12_kindOf : x_code M_X12_kindOf ∈ x_w := x_in 1447 rfl rfl
set_option maxRecDepth 100000 in
theorem co_X12_fieldOf : x_code M_X12_fieldOf ∈ x_w := x_in 1463 rfl rfl
set_option maxRecDepth 100000 in
theorem co_X12_varOf : x_code M_X12_varOf ∈ x_w := x_in 1503 rfl rfl
set_option maxRecDepth 100000 in
theorem co_X12_operand : x_code M_X12_operand ∈ x_w := x_in 1479 rfl rfl
set_option maxRecDepth 100000 in
theorem co_X12_operation : x_code M_X12_operation ∈ x_w := x_in 1507 rfl rfl
set_option maxRecDepth 100000 in
theorem co_X12_binary : x_code M_X12_binary ∈ x_w := x_in 1513 rfl rfl
set_option maxRecDepth 100000 in
theorem co_X12_closes : x_code M_X12_closes ∈ x_w := x_in 1521 rfl rfl
set_option maxRecDepth 100000 in
theorem co_X12_unwind : x_code M_X12_unwind ∈ x_w := x_in 1517 rfl rfl
set_option maxRecDepth 100000 in
theorem co_X12_strength : x_code M_X12_strength ∈ x_w := x_in 1486 rfl rfl
set_option maxRecDepth 100000 in
theorem co_X12_emit : x_code M_X12_emit ∈ x_w := x_in 1423 rfl rfl
set_option maxRecDepth 100000 in
theorem co_X12_push : x_code M_X12_push ∈ x_w := x_in 1483 rfl rfl
set_option maxRecDepth 100000 in
theorem co_X12_bracket : x_code M_X12_bracket ∈ x_w := x_in 1439 rfl rfl
set_option maxRecDepth 100000 in
theorem co_X12_aggregate : x_code M_X12_aggregate ∈ x_w := x_in 1491 rfl rfl
set_option maxRecDepth 100000 in
theorem co_X12_takeVariable : x_code M_X12_takeVariable ∈ x_w := x_in 1499 rfl rfl
set_option maxRecDepth 100000 in
theorem co_X12_levelOf : x_code M_X12_levelOf ∈ x_w := x_in 1451 rfl rfl
set_option maxRecDepth 100000 in
theorem co_X12_sign : x_code M_X12_sign ∈ x_w := x_in 1455 rfl rfl
set_option maxRecDepth 100000 in
theorem co_X12_takeField : x_code M_X12_takeField ∈ x_w := x_in 1459 rfl rfl
set_option maxRecDepth 100000 in
theorem co_X12_takeKind : x_code M_X12_takeKind ∈ x_w := x_in 1495 rfl rfl
set_option maxRecDepth 100000 in
theorem co_X12_expression : x_code M_X12_expression ∈ x_w := x_in 1475 rfl rfl
set_option maxRecDepth 100000 in
theorem co_X12_measured : x_code M_X12_measured ∈ x_w := x_in 1471 rfl rfl
set_option maxRecDepth 100000 in
theorem co_X12_inline : x_code M_X12_inline ∈ x_w := x_in 1467 rfl rfl
set_option maxRecDepth 100000 in
theorem co_X12_keyword : x_code M_X12_keyword ∈ x_w := x_in 1551 rfl rfl
set_option maxRecDepth 100000 in
theorem co_X12_levels : x_code M_X12_levels ∈ x_w := x_in 1555 rfl rfl
set_option maxRecDepth 100000 in
theorem co_X12_whereOf : x_code M_X12_whereOf ∈ x_w := x_in 1539 rfl rfl
set_option maxRecDepth 100000 in
theorem co_X12_block : x_code M_X12_block ∈ x_w := x_in 1431 rfl rfl
set_option maxRecDepth 100000 in
theorem co_X12_opens : x_code M_X12_opens ∈ x_w := x_in 1435 rfl rfl
set_option maxRecDepth 100000 in
theorem co_X12_puts : x_code M_X12_puts ∈ x_w := x_in 1535 rfl rfl
set_option maxRecDepth 100000 in
theorem co_X12_ends : x_code M_X12_ends ∈ x_w := x_in 1415 rfl rfl
set_option maxRecDepth 100000 in
theorem co_X12_cursor : x_code M_X12_cursor ∈ x_w := x_in 1443 rfl rfl
set_option maxRecDepth 100000 in
theorem co_X12_newKind : x_code M_X12_newKind ∈ x_w := x_in 1525 rfl rfl
set_option maxRecDepth 100000 in
theorem co_X12_onKind : x_code M_X12_onKind ∈ x_w := x_in 1531 rfl rfl
set_option maxRecDepth 100000 in
theorem co_X12_letOrPrint : x_code M_X12_letOrPrint ∈ x_w := x_in 1543 rfl rfl
set_option maxRecDepth 100000 in
theorem co_X12_each : x_code M_X12_each ∈ x_w := x_in 1547 rfl rfl
set_option maxRecDepth 100000 in
theorem co_X12_condition : x_code M_X12_condition ∈ x_w := x_in 1559 rfl rfl
set_option maxRecDepth 100000 in
theorem co_X12_statement : x_code M_X12_statement ∈ x_w := x_in 1407 rfl rfl
set_option maxRecDepth 100000 in
theorem co_X12_valueOf : x_code M_X12_valueOf ∈ x_w := x_in 1595 rfl rfl
set_option maxRecDepth 100000 in
theorem co_X12_cursorThere : x_code M_X12_cursorThere ∈ x_w := x_in 1599 rfl rfl
set_option maxRecDepth 100000 in
theorem co_X12_nextOf : x_code M_X12_nextOf ∈ x_w := x_in 1603 rfl rfl
set_option maxRecDepth 100000 in
theorem co_X12_endOf : x_code M_X12_endOf ∈ x_w := x_in 1607 rfl rfl
set_option maxRecDepth 100000 in
theorem co_X12_aggregated : x_code M_X12_aggregated ∈ x_w := x_in 1611 rfl rfl
set_option maxRecDepth 100000 in
theorem co_X12_operate : x_code M_X12_operate ∈ x_w := x_in 1614 rfl rfl
set_option maxRecDepth 100000 in
theorem co_X12_eval : x_code M_X12_eval ∈ x_w := x_in 1591 rfl rfl
set_option maxRecDepth 100000 in
theorem co_X12_cut : x_code M_X12_cut ∈ x_w := x_in 1583 rfl rfl
set_option maxRecDepth 100000 in
theorem co_X12_choose : x_code M_X12_choose ∈ x_w := x_in 1587 rfl rfl
set_option maxRecDepth 100000 in
theorem co_X12_pay : x_code M_X12_pay ∈ x_w := x_in 1575 rfl rfl
set_option maxRecDepth 100000 in
theorem co_X12_insert : x_code M_X12_insert ∈ x_w := x_in 1579 rfl rfl
set_option maxRecDepth 100000 in
theorem co_X12_setAll : x_code M_X12_setAll ∈ x_w := x_in 1618 rfl rfl
set_option maxRecDepth 100000 in
theorem co_X12_beginEach : x_code M_X12_beginEach ∈ x_w := x_in 1622 rfl rfl
set_option maxRecDepth 100000 in
theorem co_X12_nextEach : x_code M_X12_nextEach ∈ x_w := x_in 1626 rfl rfl
set_option maxRecDepth 100000 in
theorem co_X12_put : x_code M_X12_put ∈ x_w := x_in 1630 rfl rfl
set_option maxRecDepth 100000 in
theorem co_X12_scan : x_code M_X12_scan ∈ x_w := x_in 1382 rfl rfl
set_option maxRecDepth 100000 in
theorem co_X12_compile : x_code M_X12_compile ∈ x_w := x_in 1403 rfl rfl
set_option maxRecDepth 100000 in
theorem co_X12_step : x_code M_X12_step ∈ x_w := x_in 1571 rfl rfl
set_option maxRecDepth 100000 in
theorem co_X11_feed : x_code M_X11_feed ∈ x_w := x_in 624 rfl rfl
set_option maxRecDepth 100000 in
theorem co_X11_load : x_code M_X11_load ∈ x_w := x_in 714 rfl rfl
set_option maxRecDepth 100000 in
theorem co_X11_run : x_code M_X11_run ∈ x_w := x_in 1067 rfl rfl
set_option maxRecDepth 100000 in
theorem co_X11_print : x_code M_X11_print ∈ x_w := x_in 1158 rfl rfl
set_option maxRecDepth 100000 in
theorem co_X11_word : x_code M_X11_word ∈ x_w := x_in 1180 rfl rfl
set_option maxRecDepth 100000 in
theorem co_X11_init : x_code M_X11_init ∈ x_w := x_in 130 rfl rfl
set_option maxRecDepth 100000 in
theorem co_X12_init : x_code M_X12_init ∈ x_w := x_in 1189 rfl rfl
set_option maxRecDepth 100000 in
theorem co_L_feed : x_code M_L_feed ∈ x_w := x_in 618 rfl rfl
set_option maxRecDepth 100000 in
theorem co_X12_feed : x_code M_X12_feed ∈ x_w := x_in 1374 rfl rfl
set_option maxRecDepth 100000 in
theorem co_X12_thrown : x_code M_X12_thrown ∈ x_w := x_in 1370 rfl rfl
set_option maxRecDepth 100000 in
theorem co_L_load : x_code M_L_load ∈ x_w := x_in 710 rfl rfl
set_option maxRecDepth 100000 in
theorem co_X12_load : x_code M_X12_load ∈ x_w := x_in 1378 rfl rfl
set_option maxRecDepth 100000 in
theorem co_X11_place : x_code M_X11_place ∈ x_w := x_in 593 rfl rfl
set_option maxRecDepth 100000 in
theorem co_X12_place : x_code M_X12_place ∈ x_w := x_in 1563 rfl rfl
set_option maxRecDepth 100000 in
theorem co_L_run : x_code M_L_run ∈ x_w := x_in 1063 rfl rfl
set_option maxRecDepth 100000 in
theorem co_X12_run : x_code M_X12_run ∈ x_w := x_in 1567 rfl rfl
set_option maxRecDepth 100000 in
theorem co_X11_steps : x_code M_X11_steps ∈ x_w := x_in 597 rfl rfl
set_option maxRecDepth 100000 in
theorem co_X12_steps : x_code M_X12_steps ∈ x_w := x_in 1634 rfl rfl
set_option maxRecDepth 100000 in
theorem co_X11_printed : x_code M_X11_printed ∈ x_w := x_in 601 rfl rfl
set_option maxRecDepth 100000 in
theorem co_X12_printed : x_code M_X12_printed ∈ x_w := x_in 1638 rfl rfl
set_option maxRecDepth 100000 in
theorem co_L_print : x_code M_L_print ∈ x_w := x_in 1153 rfl rfl
set_option maxRecDepth 100000 in
theorem co_X12_print : x_code M_X12_print ∈ x_w := x_in 1642 rfl rfl
set_option maxRecDepth 100000 in
theorem co_L_word : x_code M_L_word ∈ x_w := x_in 1176 rfl rfl
set_option maxRecDepth 100000 in
theorem co_X12_word : x_code M_X12_word ∈ x_w := x_in 1646 rfl rfl
set_option maxRecDepth 100000 in
theorem co_X11_records : x_code M_X11_records ∈ x_w := x_in 605 rfl rfl
set_option maxRecDepth 100000 in
theorem co_X12_records : x_code M_X12_records ∈ x_w := x_in 1650 rfl rfl
set_option maxRecDepth 100000 in
theorem co_J0_coder_7d493 : x_code M_J0_coder_7d493 ∈ x_w := x_in 148 rfl rfl
set_option maxRecDepth 100000 in
theorem co_J0_isLatin1_aae02 : x_code M_J0_isLatin1_aae02 ∈ x_w := x_in 158 rfl rfl
set_option maxRecDepth 100000 in
theorem co_J1_charAt_3b067 : x_code M_J1_charAt_3b067 ∈ x_w := x_in 161 rfl rfl
set_option maxRecDepth 100000 in
theorem co_J0_indexOf_7cf53 : x_code M_J0_indexOf_7cf53 ∈ x_w := x_in 768 rfl rfl
set_option maxRecDepth 100000 in
theorem co_J1_indexOf_4cfef : x_code M_J1_indexOf_4cfef ∈ x_w := x_in 772 rfl rfl
set_option maxRecDepth 100000 in
theorem co_J3_checkIndex_8e157 : x_code M_J3_checkIndex_8e157 ∈ x_w := x_in 169 rfl rfl
set_option maxRecDepth 100000 in
theorem co_J0_checkIndex_df160 : x_code M_J0_checkIndex_df160 ∈ x_w := x_in 164 rfl rfl
set_option maxRecDepth 100000 in
theorem co_J1_canEncode_9a6ad : x_code M_J1_canEncode_9a6ad ∈ x_w := x_in 775 rfl rfl
set_option maxRecDepth 100000 in
theorem co_J9_max_7cf53 : x_code M_J9_max_7cf53 ∈ x_w := x_in 778 rfl rfl
set_option maxRecDepth 100000 in
theorem co_J9_min_7cf53 : x_code M_J9_min_7cf53 ∈ x_w := x_in 781 rfl rfl
set_option maxRecDepth 100000 in
theorem co_J1_indexOfChar_4cfef : x_code M_J1_indexOfChar_4cfef ∈ x_w := x_in 784 rfl rfl
set_option maxRecDepth 100000 in
theorem co_J6_numberOfTrailingZeros_0f7a4 : x_code M_J6_numberOfTrailingZeros_0f7a4 ∈ x_w := x_in 1116 rfl rfl
