set_option maxRecDepth 100000 in
theorem co_X6_change : x_code M_X6_change ∈ x_w := x_in 1048 rfl rfl
set_option maxRecDepth 100000 in
theorem co_X6_noBlockIsOpen : x_code M_X6_noBlockIsOpen ∈ x_w := x_in 1052 rfl rfl
set_option maxRecDepth 100000 in
theorem co_X5_addStep : x_code M_X5_addStep ∈ x_w := x_in 845 rfl rfl
set_option maxRecDepth 100000 in
theorem co_X3_variable : x_code M_X3_variable ∈ x_w := x_in 861 rfl rfl
set_option maxRecDepth 100000 in
theorem co_X3_addKind : x_code M_X3_addKind ∈ x_w := x_in 865 rfl rfl
set_option maxRecDepth 100000 in
theorem co_X6_field : x_code M_X6_field ∈ x_w := x_in 874 rfl rfl
set_option maxRecDepth 100000 in
theorem co_X3_addField : x_code M_X3_addField ∈ x_w := x_in 892 rfl rfl
set_option maxRecDepth 100000 in
theorem co_X6_puts : x_code M_X6_puts ∈ x_w := x_in 909 rfl rfl
set_option maxRecDepth 100000 in
theorem co_X6_where : x_code M_X6_where ∈ x_w := x_in 1003 rfl rfl
set_option maxRecDepth 100000 in
theorem co_X1_read : x_code M_X1_read ∈ x_w := x_in 913 rfl rfl
set_option maxRecDepth 100000 in
theorem co_X5_addPut : x_code M_X5_addPut ∈ x_w := x_in 995 rfl rfl
set_option maxRecDepth 100000 in
theorem co_X7_openBlock : x_code M_X7_openBlock ∈ x_w := x_in 1025 rfl rfl
set_option maxRecDepth 100000 in
theorem co_X7_closeBlock : x_code M_X7_closeBlock ∈ x_w := x_in 1043 rfl rfl
set_option maxRecDepth 100000 in
theorem co_X3_addVariable : x_code M_X3_addVariable ∈ x_w := x_in 977 rfl rfl
set_option maxRecDepth 100000 in
theorem co_J0_length_8abf5 : x_code M_J0_length_8abf5 ∈ x_w := x_in 144 rfl rfl
set_option maxRecDepth 100000 in
theorem co_J0_charAt_5068e : x_code M_J0_charAt_5068e ∈ x_w := x_in 154 rfl rfl
set_option maxRecDepth 100000 in
theorem co_X9_longer : x_code M_X9_longer ∈ x_w := x_in 191 rfl rfl
set_option maxRecDepth 100000 in
theorem co_X9_behindBlanks : x_code M_X9_behindBlanks ∈ x_w := x_in 726 rfl rfl
set_option maxRecDepth 100000 in
theorem co_X9_cut : x_code M_X9_cut ∈ x_w := x_in 730 rfl rfl
set_option maxRecDepth 100000 in
theorem co_X9_isLetter : x_code M_X9_isLetter ∈ x_w := x_in 733 rfl rfl
set_option maxRecDepth 100000 in
theorem co_X9_cutName : x_code M_X9_cutName ∈ x_w := x_in 737 rfl rfl
set_option maxRecDepth 100000 in
theorem co_X9_isDigit : x_code M_X9_isDigit ∈ x_w := x_in 744 rfl rfl
set_option maxRecDepth 100000 in
theorem co_X9_cutNumber : x_code M_X9_cutNumber ∈ x_w := x_in 748 rfl rfl
set_option maxRecDepth 100000 in
theorem co_X9_cutSign : x_code M_X9_cutSign ∈ x_w := x_in 759 rfl rfl
set_option maxRecDepth 100000 in
theorem co_X9_wordOrName : x_code M_X9_wordOrName ∈ x_w := x_in 741 rfl rfl
set_option maxRecDepth 100000 in
theorem co_J9_min_f86c9 : x_code M_J9_min_f86c9 ∈ x_w := x_in 754 rfl rfl
set_option maxRecDepth 100000 in
theorem co_J0_indexOf_0f7a4 : x_code M_J0_indexOf_0f7a4 ∈ x_w := x_in 764 rfl rfl
set_option maxRecDepth 100000 in
theorem co_X10_taken : x_code M_X10_taken ∈ x_w := x_in 609 rfl rfl
set_option maxRecDepth 100000 in
theorem co_J13_numberOfTrailingZeros_95d88 : x_code M_J13_numberOfTrailingZeros_95d88 ∈ x_w := x_in 1114 rfl rfl
set_option maxRecDepth 100000 in
theorem co_X9_init : x_code M_X9_init ∈ x_w := x_in 138 rfl rfl
set_option maxRecDepth 100000 in
theorem co_X3_init : x_code M_X3_init ∈ x_w := x_in 228 rfl rfl
set_option maxRecDepth 100000 in
theorem co_X10_init : x_code M_X10_init ∈ x_w := x_in 267 rfl rfl
set_option maxRecDepth 100000 in
theorem co_X5_init : x_code M_X5_init ∈ x_w := x_in 292 rfl rfl
set_option maxRecDepth 100000 in
theorem co_X6_init : x_code M_X6_init ∈ x_w := x_in 420 rfl rfl
set_option maxRecDepth 100000 in
theorem co_X2_init : x_code M_X2_init ∈ x_w := x_in 502 rfl rfl
set_option maxRecDepth 100000 in
theorem co_X9_add : x_code M_X9_add ∈ x_w := x_in 707 rfl rfl
set_option maxRecDepth 100000 in
theorem co_X3_keep : x_code M_X3_keep ∈ x_w := x_in 718 rfl rfl
set_option maxRecDepth 100000 in
theorem co_X9_scan : x_code M_X9_scan ∈ x_w := x_in 722 rfl rfl
set_option maxRecDepth 100000 in
theorem co_X6_reads : x_code M_X6_reads ∈ x_w := x_in 824 rfl rfl
set_option maxRecDepth 100000 in
theorem co_X9_wrongPlace : x_code M_X9_wrongPlace ∈ x_w := x_in 1056 rfl rfl
set_option maxRecDepth 100000 in
theorem co_X3_takeBack : x_code M_X3_takeBack ∈ x_w := x_in 1060 rfl rfl
set_option maxRecDepth 100000 in
theorem co_X2_goThrough : x_code M_X2_goThrough ∈ x_w := x_in 1071 rfl rfl
set_option maxRecDepth 100000 in
theorem co_X10_kindOf : x_code M_X10_kindOf ∈ x_w := x_in 1185 rfl rfl
set_option maxRecDepth 100000 in
theorem co_X12_wordIs : x_code M_X12_wordIs ∈ x_w := x_in 1196 rfl rfl
set_option maxRecDepth 100000 in
theorem co_X12_nameOf : x_code M_X12_nameOf ∈ x_w := x_in 1199 rfl rfl
set_option maxRecDepth 100000 in
theorem co_X12_byteAt : x_code M_X12_byteAt ∈ x_w := x_in 1387 rfl rfl
set_option maxRecDepth 100000 in
theorem co_X12_letter : x_code M_X12_letter ∈ x_w := x_in 1394 rfl rfl
set_option maxRecDepth 100000 in
theorem co_X12_digit : x_code M_X12_digit ∈ x_w := x_in 1397 rfl rfl
set_option maxRecDepth 100000 in
theorem co_X12_token : x_code M_X12_token ∈ x_w := x_in 1391 rfl rfl
set_option maxRecDepth 100000 in
theorem co_X12_isSign : x_code M_X12_isSign ∈ x_w := x_in 1412 rfl rfl
set_option maxRecDepth 100000 in
theorem co_X12_wrong : x_code M_X12_wrong ∈ x_w := x_in 1420 rfl rfl
set_option maxRecDepth 100000 in
theorem co_X12_isWord : x_code M_X12_isWord ∈ x_w := x_in 1428 rfl rfl
set_option maxRecDepth 100000 in
theorem co_X12_kindOf : x_code M_X12_kindOf ∈ x_w := x_in 1448 rfl rfl
set_option maxRecDepth 100000 in
theorem co_X12_fieldOf : x_code M_X12_fieldOf ∈ x_w := x_in 1464 rfl rfl
set_option maxRecDepth 100000 in
theorem co_X12_varOf : x_code M_X12_varOf ∈ x_w := x_in 1504 rfl rfl
set_option maxRecDepth 100000 in
theorem co_X12_operand : x_code M_X12_operand ∈ x_w := x_in 1480 rfl rfl
set_option maxRecDepth 100000 in
theorem co_X12_operation : x_code M_X12_operation ∈ x_w := x_in 1508 rfl rfl
set_option maxRecDepth 100000 in
theorem co_X12_binary : x_code M_X12_binary ∈ x_w := x_in 1514 rfl rfl
set_option maxRecDepth 100000 in
theorem co_X12_closes : x_code M_X12_closes ∈ x_w := x_in 1522 rfl rfl
set_option maxRecDepth 100000 in
theorem co_X12_unwind : x_code M_X12_unwind ∈ x_w := x_in 1518 rfl rfl
set_option maxRecDepth 100000 in
theorem co_X12_strength : x_code M_X12_strength ∈ x_w := x_in 1487 rfl rfl
set_option maxRecDepth 100000 in
theorem co_X12_emit : x_code M_X12_emit ∈ x_w := x_in 1424 rfl rfl
set_option maxRecDepth 100000 in
theorem co_X12_push : x_code M_X12_push ∈ x_w := x_in 1484 rfl rfl
set_option maxRecDepth 100000 in
theorem co_X12_bracket : x_code M_X12_bracket ∈ x_w := x_in 1440 rfl rfl
set_option maxRecDepth 100000 in
theorem co_X12_aggregate : x_code M_X12_aggregate ∈ x_w := x_in 1492 rfl rfl
set_option maxRecDepth 100000 in
theorem co_X12_takeVariable : x_code M_X12_takeVariable ∈ x_w := x_in 1500 rfl rfl
set_option maxRecDepth 100000 in
theorem co_X12_levelOf : x_code M_X12_levelOf ∈ x_w := x_in 1452 rfl rfl
set_option maxRecDepth 100000 in
theorem co_X12_sign : x_code M_X12_sign ∈ x_w := x_in 1456 rfl rfl
set_option maxRecDepth 100000 in
theorem co_X12_takeField : x_code M_X12_takeField ∈ x_w := x_in 1460 rfl rfl
set_option maxRecDepth 100000 in
theorem co_X12_takeKind : x_code M_X12_takeKind ∈ x_w := x_in 1496 rfl rfl
set_option maxRecDepth 100000 in
theorem co_X12_expression : x_code M_X12_expression ∈ x_w := x_in 1476 rfl rfl
set_option maxRecDepth 100000 in
theorem co_X12_measured : x_code M_X12_measured ∈ x_w := x_in 1472 rfl rfl
set_option maxRecDepth 100000 in
theorem co_X12_inline : x_code M_X12_inline ∈ x_w := x_in 1468 rfl rfl
set_option maxRecDepth 100000 in
theorem co_X12_keyword : x_code M_X12_keyword ∈ x_w := x_in 1552 rfl rfl
set_option maxRecDepth 100000 in
theorem co_X12_levels : x_code M_X12_levels ∈ x_w := x_in 1556 rfl rfl
set_option maxRecDepth 100000 in
theorem co_X12_whereOf : x_code M_X12_whereOf ∈ x_w := x_in 1540 rfl rfl
set_option maxRecDepth 100000 in
theorem co_X12_block : x_code M_X12_block ∈ x_w := x_in 1432 rfl rfl
set_option maxRecDepth 100000 in
theorem co_X12_opens : x_code M_X12_opens ∈ x_w := x_in 1436 rfl rfl
set_option maxRecDepth 100000 in
theorem co_X12_puts : x_code M_X12_puts ∈ x_w := x_in 1536 rfl rfl
set_option maxRecDepth 100000 in
theorem co_X12_ends : x_code M_X12_ends ∈ x_w := x_in 1416 rfl rfl
set_option maxRecDepth 100000 in
theorem co_X12_cursor : x_code M_X12_cursor ∈ x_w := x_in 1444 rfl rfl
set_option maxRecDepth 100000 in
theorem co_X12_newKind : x_code M_X12_newKind ∈ x_w := x_in 1526 rfl rfl
set_option maxRecDepth 100000 in
theorem co_X12_onKind : x_code M_X12_onKind ∈ x_w := x_in 1532 rfl rfl
set_option maxRecDepth 100000 in
theorem co_X12_letOrPrint : x_code M_X12_letOrPrint ∈ x_w := x_in 1544 rfl rfl
set_option maxRecDepth 100000 in
theorem co_X12_each : x_code M_X12_each ∈ x_w := x_in 1548 rfl rfl
set_option maxRecDepth 100000 in
theorem co_X12_condition : x_code M_X12_condition ∈ x_w := x_in 1560 rfl rfl
set_option maxRecDepth 100000 in
theorem co_X12_statement : x_code M_X12_statement ∈ x_w := x_in 1408 rfl rfl
set_option maxRecDepth 100000 in
theorem co_X12_valueOf : x_code M_X12_valueOf ∈ x_w := x_in 1596 rfl rfl
set_option maxRecDepth 100000 in
theorem co_X12_cursorThere : x_code M_X12_cursorThere ∈ x_w := x_in 1600 rfl rfl
set_option maxRecDepth 100000 in
theorem co_X12_nextOf : x_code M_X12_nextOf ∈ x_w := x_in 1604 rfl rfl
set_option maxRecDepth 100000 in
theorem co_X12_endOf : x_code M_X12_endOf ∈ x_w := x_in 1608 rfl rfl
set_option maxRecDepth 100000 in
theorem co_X12_aggregated : x_code M_X12_aggregated ∈ x_w := x_in 1612 rfl rfl
set_option maxRecDepth 100000 in
theorem co_X12_operate : x_code M_X12_operate ∈ x_w := x_in 1615 rfl rfl
set_option maxRecDepth 100000 in
theorem co_X12_eval : x_code M_X12_eval ∈ x_w := x_in 1592 rfl rfl
set_option maxRecDepth 100000 in
theorem co_X12_cut : x_code M_X12_cut ∈ x_w := x_in 1584 rfl rfl
set_option maxRecDepth 100000 in
theorem co_X12_choose : x_code M_X12_choose ∈ x_w := x_in 1588 rfl rfl
set_option maxRecDepth 100000 in
theorem co_X12_pay : x_code M_X12_pay ∈ x_w := x_in 1576 rfl rfl
set_option maxRecDepth 100000 in
theorem co_X12_insert : x_code M_X12_insert ∈ x_w := x_in 1580 rfl rfl
set_option maxRecDepth 100000 in
theorem co_X12_setAll : x_code M_X12_setAll ∈ x_w := x_in 1619 rfl rfl
set_option maxRecDepth 100000 in
theorem co_X12_beginEach : x_code M_X12_beginEach ∈ x_w := x_in 1623 rfl rfl
set_option maxRecDepth 100000 in
theorem co_X12_nextEach : x_code M_X12_nextEach ∈ x_w := x_in 1627 rfl rfl
set_option maxRecDepth 100000 in
theorem co_X12_put : x_code M_X12_put ∈ x_w := x_in 1631 rfl rfl
set_option maxRecDepth 100000 in
theorem co_X12_scan : x_code M_X12_scan ∈ x_w := x_in 1383 rfl rfl
set_option maxRecDepth 100000 in
theorem co_X12_compile : x_code M_X12_compile ∈ x_w := x_in 1404 rfl rfl
set_option maxRecDepth 100000 in
theorem co_X12_step : x_code M_X12_step ∈ x_w := x_in 1572 rfl rfl
set_option maxRecDepth 100000 in
theorem co_X11_feed : x_code M_X11_feed ∈ x_w := x_in 624 rfl rfl
set_option maxRecDepth 100000 in
theorem co_X11_load : x_code M_X11_load ∈ x_w := x_in 714 rfl rfl
set_option maxRecDepth 100000 in
theorem co_X11_run : x_code M_X11_run ∈ x_w := x_in 1067 rfl rfl
set_option maxRecDepth 100000 in
theorem co_X11_print : x_code M_X11_print ∈ x_w := x_in 1159 rfl rfl
set_option maxRecDepth 100000 in
theorem co_X11_word : x_code M_X11_word ∈ x_w := x_in 1181 rfl rfl
set_option maxRecDepth 100000 in
theorem co_X11_init : x_code M_X11_init ∈ x_w := x_in 130 rfl rfl
set_option maxRecDepth 100000 in
theorem co_X12_init : x_code M_X12_init ∈ x_w := x_in 1190 rfl rfl
set_option maxRecDepth 100000 in
theorem co_L_feed : x_code M_L_feed ∈ x_w := x_in 618 rfl rfl
set_option maxRecDepth 100000 in
theorem co_X12_feed : x_code M_X12_feed ∈ x_w := x_in 1375 rfl rfl
set_option maxRecDepth 100000 in
theorem co_X12_thrown : x_code M_X12_thrown ∈ x_w := x_in 1371 rfl rfl
set_option maxRecDepth 100000 in
theorem co_L_load : x_code M_L_load ∈ x_w := x_in 710 rfl rfl
set_option maxRecDepth 100000 in
theorem co_X12_load : x_code M_X12_load ∈ x_w := x_in 1379 rfl rfl
set_option maxRecDepth 100000 in
theorem co_X11_place : x_code M_X11_place ∈ x_w := x_in 593 rfl rfl
set_option maxRecDepth 100000 in
theorem co_X12_place : x_code M_X12_place ∈ x_w := x_in 1564 rfl rfl
set_option maxRecDepth 100000 in
theorem co_L_run : x_code M_L_run ∈ x_w := x_in 1063 rfl rfl
set_option maxRecDepth 100000 in
theorem co_X12_run : x_code M_X12_run ∈ x_w := x_in 1568 rfl rfl
set_option maxRecDepth 100000 in
theorem co_X11_steps : x_code M_X11_steps ∈ x_w := x_in 597 rfl rfl
set_option maxRecDepth 100000 in
theorem co_X12_steps : x_code M_X12_steps ∈ x_w := x_in 1635 rfl rfl
set_option maxRecDepth 100000 in
theorem co_X11_printed : x_code M_X11_printed ∈ x_w := x_in 601 rfl rfl
set_option maxRecDepth 100000 in
theorem co_X12_printed : x_code M_X12_printed ∈ x_w := x_in 1639 rfl rfl
set_option maxRecDepth 100000 in
theorem co_L_print : x_code M_L_print ∈ x_w := x_in 1154 rfl rfl
set_option maxRecDepth 100000 in
theorem co_X12_print : x_code M_X12_print ∈ x_w := x_in 1643 rfl rfl
set_option maxRecDepth 100000 in
theorem co_L_word : x_code M_L_word ∈ x_w := x_in 1177 rfl rfl
set_option maxRecDepth 100000 in
theorem co_X12_word : x_code M_X12_word ∈ x_w := x_in 1647 rfl rfl
set_option maxRecDepth 100000 in
theorem co_X11_records : x_code M_X11_records ∈ x_w := x_in 605 rfl rfl
set_option maxRecDepth 100000 in
theorem co_X12_records : x_code M_X12_records ∈ x_w := x_in 1651 rfl rfl
set_option maxRecDepth 100000 in
theorem co_J0_coder_7d493 : x_code M_J0_coder_7d493 ∈ x_w := x_in 148 rfl rfl
set_option maxRecDepth 100000 in
theorem co_J0_isLatin1_aae02 : x_code M_J0_isLatin1_aae02 ∈ x_w := x_in 158 rfl rfl
set_option maxRecDepth 100000 in
theorem co_J1_charAt_3b067 : x_code M_J1_charAt_3b067 ∈ x_w := x_in 161 rfl rfl
set_option maxRecDepth 100000 in
theorem co_J0_indexOf_7cf53 : x_code M_J0_indexOf_7cf53 ∈ x_w := x_in 768 rfl rfl
set_option maxRecDepth 100000 in
theorem co_J1_indexOf_4cfef : x_code M_J1_indexOf_4cfef ∈ x_w := x_in 772 rfl rfl
set_option maxRecDepth 100000 in
theorem co_J3_checkIndex_8e157 : x_code M_J3_checkIndex_8e157 ∈ x_w := x_in 169 rfl rfl
set_option maxRecDepth 100000 in
theorem co_J0_checkIndex_df160 : x_code M_J0_checkIndex_df160 ∈ x_w := x_in 164 rfl rfl
set_option maxRecDepth 100000 in
theorem co_J1_canEncode_9a6ad : x_code M_J1_canEncode_9a6ad ∈ x_w := x_in 775 rfl rfl
set_option maxRecDepth 100000 in
theorem co_J9_min_7cf53 : x_code M_J9_min_7cf53 ∈ x_w := x_in 781 rfl rfl
set_option maxRecDepth 100000 in
theorem co_J1_indexOfChar_4cfef : x_code M_J1_indexOfChar_4cfef ∈ x_w := x_in 784 rfl rfl
set_option maxRecDepth 100000 in
theorem co_J6_numberOfTrailingZeros_0f7a4 : x_code M_J6_numberOfTrailingZeros_0f7a4 ∈ x_w := x_in 1117 rfl rfl
