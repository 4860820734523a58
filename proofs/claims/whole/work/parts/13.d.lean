theorem cs_X11_feed_X9_add : x_CS M_X11_feed M_X9_add 1 := ⟨(by decide +kernel : plainFor (x_y M_X9_add) = true), co_X9_add, in_X9, ⟨by decide +kernel, by decide +kernel⟩, by decide +kernel, by decide, by decide⟩
set_option maxRecDepth 100000 in
theorem ml_X11_70 : Cond.methodLink RX11 70 (x_y M_X9_add) ∈ x_w := x_in 704 rfl rfl
set_option maxRecDepth 100000 in
theorem im_X9_add : Cond.instanceMethod (x_y M_X9_add) ∈ x_w := x_in 705 rfl rfl
set_option maxRecDepth 100000 in
theorem se_X9_add : Cond.selects (x_y M_X9_add).cls (x_y M_X9_add) (x_y M_X9_add) ∈ x_w := x_in 706 rfl rfl
theorem cs_X11_load_X3_keep : x_CS M_X11_load M_X3_keep 0 := ⟨(by decide +kernel : plainFor (x_y M_X3_keep) = true), co_X3_keep, in_X3, ⟨by decide +kernel, by decide +kernel⟩, by decide +kernel, by decide, by decide⟩
set_option maxRecDepth 100000 in
theorem ml_X11_74 : Cond.methodLink RX11 74 (x_y M_X3_keep) ∈ x_w := x_in 715 rfl rfl
set_option maxRecDepth 100000 in
theorem im_X3_keep : Cond.instanceMethod (x_y M_X3_keep) ∈ x_w := x_in 716 rfl rfl
set_option maxRecDepth 100000 in
theorem se_X3_keep : Cond.selects (x_y M_X3_keep).cls (x_y M_X3_keep) (x_y M_X3_keep) ∈ x_w := x_in 717 rfl rfl
theorem cs_X11_load_X9_scan : x_CS M_X11_load M_X9_scan 0 := ⟨(by decide +kernel : plainFor (x_y M_X9_scan) = true), co_X9_scan, in_X9, ⟨by decide +kernel, by decide +kernel⟩, by decide +kernel, by decide, by decide⟩
set_option maxRecDepth 100000 in
theorem ml_X11_77 : Cond.methodLink RX11 77 (x_y M_X9_scan) ∈ x_w := x_in 719 rfl rfl
set_option maxRecDepth 100000 in
theorem im_X9_scan : Cond.instanceMethod (x_y M_X9_scan) ∈ x_w := x_in 720 rfl rfl
set_option maxRecDepth 100000 in
theorem se_X9_scan : Cond.selects (x_y M_X9_scan).cls (x_y M_X9_scan) (x_y M_X9_scan) ∈ x_w := x_in 721 rfl rfl
theorem cs_X11_load_X6_reads : x_CS M_X11_load M_X6_reads 0 := ⟨(by decide +kernel : plainFor (x_y M_X6_reads) = true), co_X6_reads, in_X6, ⟨by decide +kernel, by decide +kernel⟩, by decide +kernel, by decide, by decide⟩
set_option maxRecDepth 100000 in
theorem ml_X11_80 : Cond.methodLink RX11 80 (x_y M_X6_reads) ∈ x_w := x_in 821 rfl rfl
set_option maxRecDepth 100000 in
theorem im_X6_reads : Cond.instanceMethod (x_y M_X6_reads) ∈ x_w := x_in 822 rfl rfl
set_option maxRecDepth 100000 in
theorem se_X6_reads : Cond.selects (x_y M_X6_reads).cls (x_y M_X6_reads) (x_y M_X6_reads) ∈ x_w := x_in 823 rfl rfl
theorem cs_X11_load_X9_wrongPlace : x_CS M_X11_load M_X9_wrongPlace 0 := ⟨(by decide +kernel : plainFor (x_y M_X9_wrongPlace) = true), co_X9_wrongPlace, in_X9, ⟨by decide +kernel, by decide +kernel⟩, by decide +kernel, by decide, by decide⟩
set_option maxRecDepth 100000 in
theorem ml_X11_88 : Cond.methodLink RX11 88 (x_y M_X9_wrongPlace) ∈ x_w := x_in 1053 rfl rfl
set_option maxRecDepth 100000 in
theorem im_X9_wrongPlace : Cond.instanceMethod (x_y M_X9_wrongPlace) ∈ x_w := x_in 1054 rfl rfl
set_option maxRecDepth 100000 in
theorem se_X9_wrongPlace : Cond.selects (x_y M_X9_wrongPlace).cls (x_y M_X9_wrongPlace) (x_y M_X9_wrongPlace) ∈ x_w := x_in 1055 rfl rfl
theorem cs_X11_load_X3_takeBack : x_CS M_X11_load M_X3_takeBack 0 := ⟨(by decide +kernel : plainFor (x_y M_X3_takeBack) = true), co_X3_takeBack, in_X3, ⟨by decide +kernel, by decide +kernel⟩, by decide +kernel, by decide, by decide⟩
set_option maxRecDepth 100000 in
theorem ml_X11_92 : Cond.methodLink RX11 92 (x_y M_X3_takeBack) ∈ x_w := x_in 1057 rfl rfl
set_option maxRecDepth 100000 in
theorem im_X3_takeBack : Cond.instanceMethod (x_y M_X3_takeBack) ∈ x_w := x_in 1058 rfl rfl
set_option maxRecDepth 100000 in
theorem se_X3_takeBack : Cond.selects (x_y M_X3_takeBack).cls (x_y M_X3_takeBack) (x_y M_X3_takeBack) ∈ x_w := x_in 1059 rfl rfl
theorem cs_X11_run_X2_goThrough : x_CS M_X11_run M_X2_goThrough 1 := ⟨(by decide +kernel : plainFor (x_y M_X2_goThrough) = true), co_X2_goThrough, in_X2, ⟨by decide +kernel, by decide +kernel⟩, by decide +kernel, by decide, by decide⟩
set_option maxRecDepth 100000 in
theorem ml_X11_98 : Cond.methodLink RX11 98 (x_y M_X2_goThrough) ∈ x_w := x_in 1068 rfl rfl
set_option maxRecDepth 100000 in
theorem im_X2_goThrough : Cond.instanceMethod (x_y M_X2_goThrough) ∈ x_w := x_in 1069 rfl rfl
set_option maxRecDepth 100000 in
theorem se_X2_goThrough : Cond.selects (x_y M_X2_goThrough).cls (x_y M_X2_goThrough) (x_y M_X2_goThrough) ∈ x_w := x_in 1070 rfl rfl
theorem cs_X11_word_X10_kindOf : x_CS M_X11_word M_X10_kindOf 1 := ⟨(by decide +kernel : plainFor (x_y M_X10_kindOf) = true), co_X10_kindOf, in_X10, ⟨by decide +kernel, by decide +kernel⟩, by decide +kernel, by decide, by decide⟩
set_option maxRecDepth 100000 in
theorem ml_X11_115 : Cond.methodLink RX11 115 (x_y M_X10_kindOf) ∈ x_w := x_in 1182 rfl rfl
set_option maxRecDepth 100000 in
theorem im_X10_kindOf : Cond.instanceMethod (x_y M_X10_kindOf) ∈ x_w := x_in 1183 rfl rfl
set_option maxRecDepth 100000 in
theorem se_X10_kindOf : Cond.selects (x_y M_X10_kindOf).cls (x_y M_X10_kindOf) (x_y M_X10_kindOf) ∈ x_w := x_in 1184 rfl rfl
theorem cs_X11_records_X10_taken : x_CS M_X11_records M_X10_taken 0 := ⟨(by decide +kernel : plainFor (x_y M_X10_taken) = true), co_X10_taken, in_X10, ⟨by decide +kernel, by decide +kernel⟩, by decide +kernel, by decide, by decide⟩
set_option maxRecDepth 100000 in
theorem ml_X11_122 : Cond.methodLink RX11 122 (x_y M_X10_taken) ∈ x_w := x_in 606 rfl rfl
theorem cs_X11_records_J13_bitCount_95d88 : x_CS M_X11_records M_J13_bitCount_95d88 1 := ⟨(by decide +kernel : plainFor (x_y M_J13_bitCount_95d88) = true), co_J13_bitCount_95d88, in_J13, ⟨by decide +kernel, by decide +kernel⟩, by decide +kernel, by decide, by decide⟩
set_option maxRecDepth 100000 in
theorem ml_X11_126 : Cond.methodLink RX11 126 (x_y M_J13_bitCount_95d88) ∈ x_w := x_in 610 rfl rfl
theorem cs_X12_init_X12_wordIs : x_CS M_X12_init M_X12_wordIs 2 := ⟨(by decide +kernel : plainFor (x_y M_X12_wordIs) = true), co_X12_wordIs, in_X12, ⟨by decide +kernel, by decide +kernel⟩, by decide +kernel, by decide, by decide⟩
set_option maxRecDepth 100000 in
theorem ml_X12_160 : Cond.methodLink RX12 160 (x_y M_X12_wordIs) ∈ x_w := x_in 1193 rfl rfl
set_option maxRecDepth 100000 in
theorem im_X12_wordIs : Cond.instanceMethod (x_y M_X12_wordIs) ∈ x_w := x_in 1195 rfl rfl
set_option maxRecDepth 100000 in
theorem se_X12_wordIs : Cond.selects (x_y M_X12_wordIs).cls (x_y M_X12_wordIs) (x_y M_X12_wordIs) ∈ x_w := x_in 41 rfl rfl
theorem cs_X12_wordIs_X12_nameOf : x_CS M_X12_wordIs M_X12_nameOf 1 := ⟨(by decide +kernel : plainFor (x_y M_X12_nameOf) = true), co_X12_nameOf, in_X12, ⟨by decide +kernel, by decide +kernel⟩, by decide +kernel, by decide, by decide⟩
set_option maxRecDepth 100000 in
theorem ml_X12_208 : Cond.methodLink RX12 208 (x_y M_X12_nameOf) ∈ x_w := x_in 1197 rfl rfl
set_option maxRecDepth 100000 in
theorem st_X12_nameOf : Cond.static (x_y M_X12_nameOf) ∈ x_w := x_in 1198 rfl rfl
theorem cs_X12_token_X12_byteAt : x_CS M_X12_token M_X12_byteAt 1 := ⟨(by decide +kernel : plainFor (x_y M_X12_byteAt) = true), co_X12_byteAt, in_X12, ⟨by decide +kernel, by decide +kernel⟩, by decide +kernel, by decide, by decide⟩
set_option maxRecDepth 100000 in
theorem ml_X12_212 : Cond.methodLink RX12 212 (x_y M_X12_byteAt) ∈ x_w := x_in 1384 rfl rfl
set_option maxRecDepth 100000 in
theorem im_X12_byteAt : Cond.instanceMethod (x_y M_X12_byteAt) ∈ x_w := x_in 1386 rfl rfl
set_option maxRecDepth 100000 in
theorem se_X12_byteAt : Cond.selects (x_y M_X12_byteAt).cls (x_y M_X12_byteAt) (x_y M_X12_byteAt) ∈ x_w := x_in 43 rfl rfl
theorem cs_X12_token_X12_letter : x_CS M_X12_token M_X12_letter 1 := ⟨(by decide +kernel : plainFor (x_y M_X12_letter) = true), co_X12_letter, in_X12, ⟨by decide +kernel, by decide +kernel⟩, by decide +kernel, by decide, by decide⟩
set_option maxRecDepth 100000 in
theorem ml_X12_216 : Cond.methodLink RX12 216 (x_y M_X12_letter) ∈ x_w := x_in 1392 rfl rfl
set_option maxRecDepth 100000 in
theorem st_X12_letter : Cond.static (x_y M_X12_letter) ∈ x_w := x_in 1393 rfl rfl
theorem cs_X12_token_X12_digit : x_CS M_X12_token M_X12_digit 1 := ⟨(by decide +kernel : plainFor (x_y M_X12_digit) = true), co_X12_digit, in_X12, ⟨by decide +kernel, by decide +kernel⟩, by decide +kernel, by decide, by decide⟩
set_option maxRecDepth 100000 in
theorem ml_X12_220 : Cond.methodLink RX12 220 (x_y M_X12_digit) ∈ x_w := x_in 1395 rfl rfl
set_option maxRecDepth 100000 in
theorem st_X12_digit : Cond.static (x_y M_X12_digit) ∈ x_w := x_in 1396 rfl rfl
theorem cs_X12_scan_X12_byteAt : x_CS M_X12_scan M_X12_byteAt 1 := ⟨(by decide +kernel : plainFor (x_y M_X12_byteAt) = true), co_X12_byteAt, in_X12, ⟨by decide +kernel, by decide +kernel⟩, by decide +kernel, by decide, by decide⟩
theorem cs_X12_scan_X12_token : x_CS M_X12_scan M_X12_token 1 := ⟨(by decide +kernel : plainFor (x_y M_X12_token) = true), co_X12_token, in_X12, ⟨by decide +kernel, by decide +kernel⟩, by decide +kernel, by decide, by decide⟩
set_option maxRecDepth 100000 in
theorem ml_X12_229 : Cond.methodLink RX12 229 (x_y M_X12_token) ∈ x_w := x_in 1388 rfl rfl
set_option maxRecDepth 100000 in
theorem im_X12_token : Cond.instanceMethod (x_y M_X12_token) ∈ x_w := x_in 1390 rfl rfl
set_option maxRecDepth 100000 in
theorem se_X12_token : Cond.selects (x_y M_X12_token).cls (x_y M_X12_token) (x_y M_X12_token) ∈ x_w := x_in 44 rfl rfl
theorem cs_X12_sign_X12_isSign : x_CS M_X12_sign M_X12_isSign 1 := ⟨(by decide +kernel : plainFor (x_y M_X12_isSign) = true), co_X12_isSign, in_X12, ⟨by decide +kernel, by decide +kernel⟩, by decide +kernel, by decide, by decide⟩
set_option maxRecDepth 100000 in
theorem ml_X12_232 : Cond.methodLink RX12 232 (x_y M_X12_isSign) ∈ x_w := x_in 1409 rfl rfl
set_option maxRecDepth 100000 in
theorem im_X12_isSign : Cond.instanceMethod (x_y M_X12_isSign) ∈ x_w := x_in 1411 rfl rfl
set_option maxRecDepth 100000 in
theorem se_X12_isSign : Cond.selects (x_y M_X12_isSign).cls (x_y M_X12_isSign) (x_y M_X12_isSign) ∈ x_w := x_in 47 rfl rfl
theorem cs_X12_sign_X12_wrong : x_CS M_X12_sign M_X12_wrong 0 := ⟨(by decide +kernel : plainFor (x_y M_X12_wrong) = true), co_X12_wrong, in_X12, ⟨by decide +kernel, by decide +kernel⟩, by decide +kernel, by decide, by decide⟩
set_option maxRecDepth 100000 in
theorem ml_X12_235 : Cond.methodLink RX12 235 (x_y M_X12_wrong) ∈ x_w := x_in 1417 rfl rfl
set_option maxRecDepth 100000 in
theorem im_X12_wrong : Cond.instanceMethod (x_y M_X12_wrong) ∈ x_w := x_in 1419 rfl rfl
set_option maxRecDepth 100000 in
theorem se_X12_wrong : Cond.selects (x_y M_X12_wrong).cls (x_y M_X12_wrong) (x_y M_X12_wrong) ∈ x_w := x_in 49 rfl rfl
theorem cs_X12_keyword_X12_isWord : x_CS M_X12_keyword M_X12_isWord 1 := ⟨(by decide +kernel : plainFor (x_y M_X12_isWord) = true), co_X12_isWord, in_X12, ⟨by decide +kernel, by decide +kernel⟩, by decide +kernel, by decide, by decide⟩
set_option maxRecDepth 100000 in
theorem ml_X12_239 : Cond.methodLink RX12 239 (x_y M_X12_isWord) ∈ x_w := x_in 1425 rfl rfl
set_option maxRecDepth 100000 in
theorem im_X12_isWord : Cond.instanceMethod (x_y M_X12_isWord) ∈ x_w := x_in 1427 rfl rfl
set_option maxRecDepth 100000 in
theorem se_X12_isWord : Cond.selects (x_y M_X12_isWord).cls (x_y M_X12_isWord) (x_y M_X12_isWord) ∈ x_w := x_in 51 rfl rfl
theorem cs_X12_keyword_X12_wrong : x_CS M_X12_keyword M_X12_wrong 0 := ⟨(by decide +kernel : plainFor (x_y M_X12_wrong) = true), co_X12_wrong, in_X12, ⟨by decide +kernel, by decide +kernel⟩, by decide +kernel, by decide, by decide⟩
theorem cs_X12_takeKind_X12_kindOf : x_CS M_X12_takeKind M_X12_kindOf 1 := ⟨(by decide +kernel : plainFor (x_y M_X12_kindOf) = true), co_X12_kindOf, in_X12, ⟨by decide +kernel, by decide +kernel⟩, by decide +kernel, by decide, by decide⟩
set_option maxRecDepth 100000 in
theorem ml_X12_242 : Cond.methodLink RX12 242 (x_y M_X12_kindOf) ∈ x_w := x_in 1445 rfl rfl
set_option maxRecDepth 100000 in
theorem im_X12_kindOf : Cond.instanceMethod (x_y M_X12_kindOf) ∈ x_w := x_in 1447 rfl rfl
set_option maxRecDepth 100000 in
theorem se_X12_kindOf : Cond.selects (x_y M_X12_kindOf).cls (x_y M_X12_kindOf) (x_y M_X12_kindOf) ∈ x_w := x_in 56 rfl rfl
theorem cs_X12_takeKind_X12_wrong : x_CS M_X12_takeKind M_X12_wrong 0 := ⟨(by decide +kernel : plainFor (x_y M_X12_wrong) = true), co_X12_wrong, in_X12, ⟨by decide +kernel, by decide +kernel⟩, by decide +kernel, by decide, by decide⟩
theorem cs_X12_takeField_X12_fieldOf : x_CS M_X12_takeField M_X12_fieldOf 2 := ⟨(by decide +kernel : plainFor (x_y M_X12_fieldOf) = true), co_X12_fieldOf, in_X12, ⟨by decide +kernel, by decide +kernel⟩, by decide +kernel, by decide, by decide⟩
set_option maxRecDepth 100000 in
theorem ml_X12_246 : Cond.methodLink RX12 246 (x_y M_X12_fieldOf) ∈ x_w := x_in 1461 rfl rfl
set_option maxRecDepth 100000 in
theorem im_X12_fieldOf : Cond.instanceMethod (x_y M_X12_fieldOf) ∈ x_w := x_in 1463 rfl rfl
set_option maxRecDepth 100000 in
theorem se_X12_fieldOf : Cond.selects (x_y M_X12_fieldOf).cls (x_y M_X12_fieldOf) (x_y M_X12_fieldOf) ∈ x_w := x_in 60 rfl rfl
theorem cs_X12_takeField_X12_wrong : x_CS M_X12_takeField M_X12_wrong 0 := ⟨(by decide +kernel : plainFor (x_y M_X12_wrong) = true), co_X12_wrong, in_X12, ⟨by decide +kernel, by decide +kernel⟩, by decide +kernel, by decide, by decide⟩
theorem cs_X12_takeVariable_X12_varOf : x_CS M_X12_takeVariable M_X12_varOf 1 := ⟨(by decide +kernel : plainFor (x_y M_X12_varOf) = true), co_X12_varOf, in_X12, ⟨by decide +kernel, by decide +kernel⟩, by decide +kernel, by decide, by decide⟩
set_option maxRecDepth 100000 in
theorem ml_X12_250 : Cond.methodLink RX12 250 (x_y M_X12_varOf) ∈ x_w := x_in 1501 rfl rfl
set_option maxRecDepth 100000 in
theorem im_X12_varOf : Cond.instanceMethod (x_y M_X12_varOf) ∈ x_w := x_in 1503 rfl rfl
set_option maxRecDepth 100000 in
theorem se_X12_varOf : Cond.selects (x_y M_X12_varOf).cls (x_y M_X12_varOf) (x_y M_X12_varOf) ∈ x_w := x_in 69 rfl rfl
theorem cs_X12_takeVariable_X12_wrong : x_CS M_X12_takeVariable M_X12_wrong 0 := ⟨(by decide +kernel : plainFor (x_y M_X12_wrong) = true), co_X12_wrong, in_X12, ⟨by decide +kernel, by decide +kernel⟩, by decide +kernel, by decide, by decide⟩
theorem cs_X12_expression_X12_operand : x_CS M_X12_expression M_X12_operand 2 := ⟨(by decide +kernel : plainFor (x_y M_X12_operand) = true), co_X12_operand, in_X12, ⟨by decide +kernel, by decide +kernel⟩, by decide +kernel, by decide, by decide⟩
set_option maxRecDepth 100000 in
theorem ml_X12_257 : Cond.methodLink RX12 257 (x_y M_X12_operand) ∈ x_w := x_in 1477 rfl rfl
set_option maxRecDepth 100000 in
theorem im_X12_operand : Cond.instanceMethod (x_y M_X12_operand) ∈ x_w := x_in 1479 rfl rfl
set_option maxRecDepth 100000 in
theorem se_X12_operand : Cond.selects (x_y M_X12_operand).cls (x_y M_X12_operand) (x_y M_X12_operand) ∈ x_w := x_in 64 rfl rfl
theorem cs_X12_expression_X12_operation : x_CS M_X12_expression M_X12_operation 0 := ⟨(by decide +kernel : plainFor (x_y M_X12_operation) = true), co_X12_operation, in_X12, ⟨by decide +kernel, by decide +kernel⟩, by decide +kernel, by decide, by decide⟩
set_option maxRecDepth 100000 in
theorem ml_X12_261 : Cond.methodLink RX12 261 (x_y M_X12_operation) ∈ x_w := x_in 1505 rfl rfl
set_option maxRecDepth 100000 in
theorem im_X12_operation : Cond.instanceMethod (x_y M_X12_operation) ∈ x_w := x_in 1507 rfl rfl
set_option maxRecDepth 100000 in
theorem se_X12_operation : Cond.selects (x_y M_X12_operation).cls (x_y M_X12_operation) (x_y M_X12_operation) ∈ x_w := x_in 70 rfl rfl
theorem cs_X12_expression_X12_binary : x_CS M_X12_expression M_X12_binary 2 := ⟨(by decide +kernel : plainFor (x_y M_X12_binary) = true), co_X12_binary, in_X12, ⟨by decide +kernel, by decide +kernel⟩, by decide +kernel, by decide, by decide⟩
set_option maxRecDepth 100000 in
theorem ml_X12_265 : Cond.methodLink RX12 265 (x_y M_X12_binary) ∈ x_w := x_in 1511 rfl rfl
set_option maxRecDepth 100000 in
theorem im_X12_binary : Cond.instanceMethod (x_y M_X12_binary) ∈ x_w := x_in 1513 rfl rfl
set_option maxRecDepth 100000 in
theorem se_X12_binary : Cond.selects (x_y M_X12_binary).cls (x_y M_X12_binary) (x_y M_X12_binary) ∈ x_w := x_in 71 rfl rfl
theorem cs_X12_expression_X12_isSign : x_CS M_X12_expression M_X12_isSign 1 := ⟨(by decide +kernel : plainFor (x_y M_X12_isSign) = true), co_X12_isSign, in_X12, ⟨by decide +kernel, by decide +kernel⟩, by decide +kernel, by decide, by decide⟩
theorem cs_X12_expression_X12_closes : x_CS M_X12_expression M_X12_closes 1 := ⟨(by decide +kernel : plainFor (x_y M_X12_closes) = true), co_X12_closes, in_X12, ⟨by decide +kernel, by decide +kernel⟩, by decide +kernel, by decide, by decide⟩
set_option maxRecDepth 100000 in
theorem ml_X12_268 : Cond.methodLink RX12 268 (x_y M_X12_closes) ∈ x_w := x_in 1519 rfl rfl
set_option maxRecDepth 100000 in
theorem im_X12_closes : Cond.instanceMethod (x_y M_X12_closes) ∈ x_w := x_in 1521 rfl rfl
set_option maxRecDepth 100000 in
theorem se_X12_closes : Cond.selects (x_y M_X12_closes).cls (x_y M_X12_closes) (x_y M_X12_closes) ∈ x_w := x_in 73 rfl rfl
theorem cs_X12_expression_X12_unwind : x_CS M_X12_expression M_X12_unwind 2 := ⟨(by decide +kernel : plainFor (x_y M_X12_unwind) = true), co_X12_unwind, in_X12, ⟨by decide +kernel, by decide +kernel⟩, by decide +kernel, by decide, by decide⟩
set_option maxRecDepth 100000 in
theorem ml_X12_271 : Cond.methodLink RX12 271 (x_y M_X12_unwind) ∈ x_w := x_in 1515 rfl rfl
set_option maxRecDepth 100000 in
theorem im_X12_unwind : Cond.instanceMethod (x_y M_X12_unwind) ∈ x_w := x_in 1517 rfl rfl
set_option maxRecDepth 100000 in
theorem se_X12_unwind : Cond.selects (x_y M_X12_unwind).cls (x_y M_X12_unwind) (x_y M_X12_unwind) ∈ x_w := x_in 72 rfl rfl
theorem cs_X12_expression_X12_wrong : x_CS M_X12_expression M_X12_wrong 0 := ⟨(by decide +kernel : plainFor (x_y M_X12_wrong) = true), co_X12_wrong, in_X12, ⟨by decide +kernel, by decide +kernel⟩, by decide +kernel, by decide, by decide⟩
theorem cs_X12_unwind_X12_strength : x_CS M_X12_unwind M_X12_strength 1 := ⟨(by decide +kernel : plainFor (x_y M_X12_strength) = true), co_X12_strength, in_X12, ⟨by decide +kernel, by decide +kernel⟩, by decide +kernel, by decide, by decide⟩
set_option maxRecDepth 100000 in
theorem ml_X12_275 : Cond.methodLink RX12 275 (x_y M_X12_strength) ∈ x_w := x_in 1485 rfl rfl
set_option maxRecDepth 100000 in
theorem st_X12_strength : Cond.static (x_y M_X12_strength) ∈ x_w := x_in 1486 rfl rfl
theorem cs_X12_unwind_X12_emit : x_CS M_X12_unwind M_X12_emit 1 := ⟨(by decide +kernel : plainFor (x_y M_X12_emit) = true), co_X12_emit, in_X12, ⟨by decide +kernel, by decide +kernel⟩, by decide +kernel, by decide, by decide⟩
set_option maxRecDepth 100000 in
theorem ml_X12_278 : Cond.methodLink RX12 278 (x_y M_X12_emit) ∈ x_w := x_in 1421 rfl rfl
set_option maxRecDepth 100000 in
theorem im_X12_emit : Cond.instanceMethod (x_y M_X12_emit) ∈ x_w := x_in 1423 rfl rfl
set_option maxRecDepth 100000 in
theorem se_X12_emit : Cond.selects (x_y M_X12_emit).cls (x_y M_X12_emit) (x_y M_X12_emit) ∈ x_w := x_in 50 rfl rfl
theorem cs_X12_binary_X12_strength : x_CS M_X12_binary M_X12_strength 1 := ⟨(by decide +kernel : plainFor (x_y M_X12_strength) = true), co_X12_strength, in_X12, ⟨by decide +kernel, by decide +kernel⟩, by decide +kernel, by decide, by decide⟩
theorem cs_X12_binary_X12_unwind : x_CS M_X12_binary M_X12_unwind 2 := ⟨(by decide +kernel : plainFor (x_y M_X12_unwind) = true), co_X12_unwind, in_X12, ⟨by decide +kernel, by decide +kernel⟩, by decide +kernel, by decide, by decide⟩
theorem cs_X12_binary_X12_wrong : x_CS M_X12_binary M_X12_wrong 0 := ⟨(by decide +kernel : plainFor (x_y M_X12_wrong) = true), co_X12_wrong, in_X12, ⟨by decide +kernel, by decide +kernel⟩, by decide +kernel, by decide, by decide⟩
theorem cs_X12_closes_X12_unwind : x_CS M_X12_closes M_X12_unwind 2 := ⟨(by decide +kernel : plainFor (x_y M_X12_unwind) = true), co_X12_unwind, in_X12, ⟨by decide +kernel, by decide +kernel⟩, by decide +kernel, by decide, by decide⟩
theorem cs_X12_closes_X12_emit : x_CS M_X12_closes M_X12_emit 1 := ⟨(by decide +kernel : plainFor (x_y M_X12_emit) = true), co_X12_emit, in_X12, ⟨by decide +kernel, by decide +kernel⟩, by decide +kernel, by decide, by decide⟩
theorem cs_X12_operand_X12_emit : x_CS M_X12_operand M_X12_emit 1 := ⟨(by decide +kernel : plainFor (x_y M_X12_emit) = true), co_X12_emit, in_X12, ⟨by decide +kernel, by decide +kernel⟩, by decide +kernel, by decide, by decide⟩
theorem cs_X12_operand_X12_isSign : x_CS M_X12_operand M_X12_isSign 1 := ⟨(by decide +kernel : plainFor (x_y M_X12_isSign) = true), co_X12_isSign, in_X12, ⟨by decide +kernel, by decide +kernel⟩, by decide +kernel, by decide, by decide⟩
theorem cs_X12_operand_X12_push : x_CS M_X12_operand M_X12_push 1 := ⟨(by decide +kernel : plainFor (x_y M_X12_push) = true), co_X12_push, in_X12, ⟨by decide +kernel, by decide +kernel⟩, by decide +kernel, by decide, by decide⟩
set_option maxRecDepth 100000 in
theorem ml_X12_282 : Cond.methodLink RX12 282 (x_y M_X12_push) ∈ x_w := x_in 1481 rfl rfl
set_option maxRecDepth 100000 in
theorem im_X12_push : Cond.instanceMethod (x_y M_X12_push) ∈ x_w := x_in 1483 rfl rfl
set_option maxRecDepth 100000 in
theorem se_X12_push : Cond.selects (x_y M_X12_push).cls (x_y M_X12_push) (x_y M_X12_push) ∈ x_w := x_in 65 rfl rfl
theorem cs_X12_operand_X12_isWord : x_CS M_X12_operand M_X12_isWord 1 := ⟨(by decide +kernel : plainFor (x_y M_X12_isWord) = true), co_X12_isWord, in_X12, ⟨by decide +kernel, by decide +kernel⟩, by decide +kernel, by decide, by decide⟩
theorem cs_X12_operand_X12_strength : x_CS M_X12_operand M_X12_strength 1 := ⟨(by decide +kernel : plainFor (x_y M_X12_strength) = true), co_X12_strength, in_X12, ⟨by decide +kernel, by decide +kernel⟩, by decide +kernel, by decide, by decide⟩
theorem cs_X12_operand_X12_wrong : x_CS M_X12_operand M_X12_wrong 0 := ⟨(by decide +kernel : plainFor (x_y M_X12_wrong) = true), co_X12_wrong, in_X12, ⟨by decide +kernel, by decide +kernel⟩, by decide +kernel, by decide, by decide⟩
theorem cs_X12_operand_X12_bracket : x_CS M_X12_operand M_X12_bracket 0 := ⟨(by decide +kernel : plainFor (x_y M_X12_bracket) = true), co_X12_bracket, in_X12, ⟨by decide +kernel, by decide +kernel⟩, by decide +kernel, by decide, by decide⟩
set_option maxRecDepth 100000 in
theorem ml_X12_285 : Cond.methodLink RX12 285 (x_y M_X12_bracket) ∈ x_w := x_in 1437 rfl rfl
set_option maxRecDepth 100000 in
theorem im_X12_bracket : Cond.instanceMethod (x_y M_X12_bracket) ∈ x_w := x_in 1439 rfl rfl
set_option maxRecDepth 100000 in
theorem se_X12_bracket : Cond.selects (x_y M_X12_bracket).cls (x_y M_X12_bracket) (x_y M_X12_bracket) ∈ x_w := x_in 54 rfl rfl
theorem cs_X12_operand_X12_aggregate : x_CS M_X12_operand M_X12_aggregate 0 := ⟨(by decide +kernel : plainFor (x_y M_X12_aggregate) = true), co_X12_aggregate, in_X12, ⟨by decide +kernel, by decide +kernel⟩, by decide +kernel, by decide, by decide⟩
set_option maxRecDepth 100000 in
theorem ml_X12_290 : Cond.methodLink RX12 290 (x_y M_X12_aggregate) ∈ x_w := x_in 1489 rfl rfl
set_option maxRecDepth 100000 in
theorem im_X12_aggregate : Cond.instanceMethod (x_y M_X12_aggregate) ∈ x_w := x_in 1491 rfl rfl
set_option maxRecDepth 100000 in
theorem se_X12_aggregate : Cond.selects (x_y M_X12_aggregate).cls (x_y M_X12_aggregate) (x_y M_X12_aggregate) ∈ x_w := x_in 66 rfl rfl
theorem cs_X12_operand_X12_fieldOf : x_CS M_X12_operand M_X12_fieldOf 2 := ⟨(by decide +kernel : plainFor (x_y M_X12_fieldOf) = true), co_X12_fieldOf, in_X12, ⟨by decide +kernel, by decide +kernel⟩, by decide +kernel, by decide, by decide⟩
theorem cs_X12_operand_X12_kindOf : x_CS M_X12_operand M_X12_kindOf 1 := ⟨(by decide +kernel : plainFor (x_y M_X12_kindOf) = true), co_X12_kindOf, in_X12, ⟨by decide +kernel, by decide +kernel⟩, by decide +kernel, by decide, by decide⟩
theorem cs_X12_operand_X12_takeVariable : x_CS M_X12_operand M_X12_takeVariable 0 := ⟨(by decide +kernel : plainFor (x_y M_X12_takeVariable) = true), co_X12_takeVariable, in_X12, ⟨by decide +kernel, by decide +kernel⟩, by decide +kernel, by decide, by decide⟩
set_option maxRecDepth 100000 in
theorem ml_X12_293 : Cond.methodLink RX12 293 (x_y M_X12_takeVariable) ∈ x_w := x_in 1497 rfl rfl
set_option maxRecDepth 100000 in
theorem im_X12_takeVariable : Cond.instanceMethod (x_y M_X12_takeVariable) ∈ x_w := x_in 1499 rfl rfl
set_option maxRecDepth 100000 in
theorem se_X12_takeVariable : Cond.selects (x_y M_X12_takeVariable).cls (x_y M_X12_takeVariable) (x_y M_X12_takeVariable) ∈ x_w := x_in 68 rfl rfl
theorem cs_X12_operand_X12_levelOf : x_CS M_X12_operand M_X12_levelOf 1 := ⟨(by decide +kernel : plainFor (x_y M_X12_levelOf) = true), co_X12_levelOf, in_X12, ⟨by decide +kernel, by decide +kernel⟩, by decide +kernel, by decide, by decide⟩
set_option maxRecDepth 100000 in
theorem ml_X12_296 : Cond.methodLink RX12 296 (x_y M_X12_levelOf) ∈ x_w := x_in 1449 rfl rfl
set_option maxRecDepth 100000 in
theorem im_X12_levelOf : Cond.instanceMethod (x_y M_X12_levelOf) ∈ x_w := x_in 1451 rfl rfl
set_option maxRecDepth 100000 in
theorem se_X12_levelOf : Cond.selects (x_y M_X12_levelOf).cls (x_y M_X12_levelOf) (x_y M_X12_levelOf) ∈ x_w := x_in 57 rfl rfl
theorem cs_X12_operand_X12_sign : x_CS M_X12_operand M_X12_sign 1 := ⟨(by decide +kernel : plainFor (x_y M_X12_sign) = true), co_X12_sign, in_X12, ⟨by decide +kernel, by decide +kernel⟩, by decide +kernel, by decide, by decide⟩
set_option maxRecDepth 100000 in
theorem ml_X12_299 : Cond.methodLink RX12 299 (x_y M_X12_sign) ∈ x_w := x_in 1453 rfl rfl
set_option maxRecDepth 100000 in
theorem im_X12_sign : Cond.instanceMethod (x_y M_X12_sign) ∈ x_w := x_in 1455 rfl rfl
set_option maxRecDepth 100000 in
theorem se_X12_sign : Cond.selects (x_y M_X12_sign).cls (x_y M_X12_sign) (x_y M_X12_sign) ∈ x_w := x_in 58 rfl rfl
theorem cs_X12_operand_X12_takeField : x_CS M_X12_operand M_X12_takeField 1 := ⟨(by decide +kernel : plainFor (x_y M_X12_takeField) = true), co_X12_takeField, in_X12, ⟨by decide +kernel, by decide +kernel⟩, by decide +kernel, by decide, by decide⟩
set_option maxRecDepth 100000 in
theorem ml_X12_302 : Cond.methodLink RX12 302 (x_y M_X12_takeField) ∈ x_w := x_in 1457 rfl rfl
set_option maxRecDepth 100000 in
theorem im_X12_takeField : Cond.instanceMethod (x_y M_X12_takeField) ∈ x_w := x_in 1459 rfl rfl
set_option maxRecDepth 100000 in
theorem se_X12_takeField : Cond.selects (x_y M_X12_takeField).cls (x_y M_X12_takeField) (x_y M_X12_takeField) ∈ x_w := x_in 59 rfl rfl
theorem cs_X12_aggregate_X12_isSign : x_CS M_X12_aggregate M_X12_isSign 1 := ⟨(by decide +kernel : plainFor (x_y M_X12_isSign) = true), co_X12_isSign, in_X12, ⟨by decide +kernel, by decide +kernel⟩, by decide +kernel, by decide, by decide⟩
theorem cs_X12_aggregate_X12_bracket : x_CS M_X12_aggregate M_X12_bracket 0 := ⟨(by decide +kernel : plainFor (x_y M_X12_bracket) = true), co_X12_bracket, in_X12, ⟨by decide +kernel, by decide +kernel⟩, by decide +kernel, by decide, by decide⟩
theorem cs_X12_aggregate_X12_wrong : x_CS M_X12_aggregate M_X12_wrong 0 := ⟨(by decide +kernel : plainFor (x_y M_X12_wrong) = true), co_X12_wrong, in_X12, ⟨by decide +kernel, by decide +kernel⟩, by decide +kernel, by decide, by decide⟩
theorem cs_X12_aggregate_X12_takeKind : x_CS M_X12_aggregate M_X12_takeKind 0 := ⟨(by decide +kernel : plainFor (x_y M_X12_takeKind) = true), co_X12_takeKind, in_X12, ⟨by decide +kernel, by decide +kernel⟩, by decide +kernel, by decide, by decide⟩
set_option maxRecDepth 100000 in
theorem ml_X12_305 : Cond.methodLink RX12 305 (x_y M_X12_takeKind) ∈ x_w := x_in 1493 rfl rfl
set_option maxRecDepth 100000 in
theorem im_X12_takeKind : Cond.instanceMethod (x_y M_X12_takeKind) ∈ x_w := x_in 1495 rfl rfl
set_option maxRecDepth 100000 in
theorem se_X12_takeKind : Cond.selects (x_y M_X12_takeKind).cls (x_y M_X12_takeKind) (x_y M_X12_takeKind) ∈ x_w := x_in 67 rfl rfl
theorem cs_X12_aggregate_X12_sign : x_CS M_X12_aggregate M_X12_sign 1 := ⟨(by decide +kernel : plainFor (x_y M_X12_sign) = true), co_X12_sign, in_X12, ⟨by decide +kernel, by decide +kernel⟩, by decide +kernel, by decide, by decide⟩
theorem cs_X12_aggregate_X12_takeField : x_CS M_X12_aggregate M_X12_takeField 1 := ⟨(by decide +kernel : plainFor (x_y M_X12_takeField) = true), co_X12_takeField, in_X12, ⟨by decide +kernel, by decide +kernel⟩, by decide +kernel, by decide, by decide⟩
theorem cs_X12_aggregate_X12_emit : x_CS M_X12_aggregate M_X12_emit 1 := ⟨(by decide +kernel : plainFor (x_y M_X12_emit) = true), co_X12_emit, in_X12, ⟨by decide +kernel, by decide +kernel⟩, by decide +kernel, by decide, by decide⟩
theorem cs_X12_aggregate_X12_isWord : x_CS M_X12_aggregate M_X12_isWord 1 := ⟨(by decide +kernel : plainFor (x_y M_X12_isWord) = true), co_X12_isWord, in_X12, ⟨by decide +kernel, by decide +kernel⟩, by decide +kernel, by decide, by decide⟩
theorem cs_X12_aggregate_X12_push : x_CS M_X12_aggregate M_X12_push 1 := ⟨(by decide +kernel : plainFor (x_y M_X12_push) = true), co_X12_push, in_X12, ⟨by decide +kernel, by decide +kernel⟩, by decide +kernel, by decide, by decide⟩
theorem cs_X12_measured_X12_emit : x_CS M_X12_measured M_X12_emit 1 := ⟨(by decide +kernel : plainFor (x_y M_X12_emit) = true), co_X12_emit, in_X12, ⟨by decide +kernel, by decide +kernel⟩, by decide +kernel, by decide, by decide⟩
theorem cs_X12_measured_X12_expression : x_CS M_X12_measured M_X12_expression 1 := ⟨(by decide +kernel : plainFor (x_y M_X12_expression) = true), co_X12_expression, in_X12, ⟨by decide +kernel, by decide +kernel⟩, by decide +kernel, by decide, by decide⟩
set_option maxRecDepth 100000 in
theorem ml_X12_308 : Cond.methodLink RX12 308 (x_y M_X12_expression) ∈ x_w := x_in 1473 rfl rfl
set_option maxRecDepth 100000 in
theorem im_X12_expression : Cond.instanceMethod (x_y M_X12_expression) ∈ x_w := x_in 1475 rfl rfl
set_option maxRecDepth 100000 in
theorem se_X12_expression : Cond.selects (x_y M_X12_expression).cls (x_y M_X12_expression) (x_y M_X12_expression) ∈ x_w := x_in 63 rfl rfl
theorem cs_X12_whereOf_X12_isWord : x_CS M_X12_whereOf M_X12_isWord 1 := ⟨(by decide +kernel : plainFor (x_y M_X12_isWord) = true), co_X12_isWord, in_X12, ⟨by decide +kernel, by decide +kernel⟩, by decide +kernel, by decide, by decide⟩
theorem cs_X12_whereOf_X12_measured : x_CS M_X12_whereOf M_X12_measured 1 := ⟨(by decide +kernel : plainFor (x_y M_X12_measured) = true), co_X12_measured, in_X12, ⟨by decide +kernel, by decide +kernel⟩, by decide +kernel, by decide, by decide⟩
set_option maxRecDepth 100000 in
theorem ml_X12_311 : Cond.methodLink RX12 311 (x_y M_X12_measured) ∈ x_w := x_in 1469 rfl rfl
set_option maxRecDepth 100000 in
theorem im_X12_measured : Cond.instanceMethod (x_y M_X12_measured) ∈ x_w := x_in 1471 rfl rfl
set_option maxRecDepth 100000 in
theorem se_X12_measured : Cond.selects (x_y M_X12_measured).cls (x_y M_X12_measured) (x_y M_X12_measured) ∈ x_w := x_in 62 rfl rfl
theorem cs_X12_whereOf_X12_emit : x_CS M_X12_whereOf M_X12_emit 1 := ⟨(by decide +kernel : plainFor (x_y M_X12_emit) = true), co_X12_emit, in_X12, ⟨by decide +kernel, by decide +kernel⟩, by decide +kernel, by decide, by decide⟩
theorem cs_X12_inline_X12_emit : x_CS M_X12_inline M_X12_emit 1 := ⟨(by decide +kernel : plainFor (x_y M_X12_emit) = true), co_X12_emit, in_X12, ⟨by decide +kernel, by decide +kernel⟩, by decide +kernel, by decide, by decide⟩
theorem cs_X12_inline_X12_measured : x_CS M_X12_inline M_X12_measured 1 := ⟨(by decide +kernel : plainFor (x_y M_X12_measured) = true), co_X12_measured, in_X12, ⟨by decide +kernel, by decide +kernel⟩, by decide +kernel, by decide, by decide⟩
theorem cs_X12_newKind_X12_kindOf : x_CS M_X12_newKind M_X12_kindOf 1 := ⟨(by decide +kernel : plainFor (x_y M_X12_kindOf) = true), co_X12_kindOf, in_X12, ⟨by decide +kernel, by decide +kernel⟩, by decide +kernel, by decide, by decide⟩
theorem cs_X12_newKind_X12_varOf : x_CS M_X12_newKind M_X12_varOf 1 := ⟨(by decide +kernel : plainFor (x_y M_X12_varOf) = true), co_X12_varOf, in_X12, ⟨by decide +kernel, by decide +kernel⟩, by decide +kernel, by decide, by decide⟩
theorem cs_X12_newKind_X12_wrong : x_CS M_X12_newKind M_X12_wrong 0 := ⟨(by decide +kernel : plainFor (x_y M_X12_wrong) = true), co_X12_wrong, in_X12, ⟨by decide +kernel, by decide +kernel⟩, by decide +kernel, by decide, by decide⟩
theorem cs_X12_newKind_X12_fieldOf : x_CS M_X12_newKind M_X12_fieldOf 2 := ⟨(by decide +kernel : plainFor (x_y M_X12_fieldOf) = true), co_X12_fieldOf, in_X12, ⟨by decide +kernel, by decide +kernel⟩, by decide +kernel, by decide, by decide⟩
theorem cs_X12_newKind_X12_sign : x_CS M_X12_newKind M_X12_sign 1 := ⟨(by decide +kernel : plainFor (x_y M_X12_sign) = true), co_X12_sign, in_X12, ⟨by decide +kernel, by decide +kernel⟩, by decide +kernel, by decide, by decide⟩
theorem cs_X12_newKind_X12_isSign : x_CS M_X12_newKind M_X12_isSign 1 := ⟨(by decide +kernel : plainFor (x_y M_X12_isSign) = true), co_X12_isSign, in_X12, ⟨by decide +kernel, by decide +kernel⟩, by decide +kernel, by decide, by decide⟩
theorem cs_X12_puts_X12_emit : x_CS M_X12_puts M_X12_emit 1 := ⟨(by decide +kernel : plainFor (x_y M_X12_emit) = true), co_X12_emit, in_X12, ⟨by decide +kernel, by decide +kernel⟩, by decide +kernel, by decide, by decide⟩
theorem cs_X12_puts_X12_fieldOf : x_CS M_X12_puts M_X12_fieldOf 2 := ⟨(by decide +kernel : plainFor (x_y M_X12_fieldOf) = true), co_X12_fieldOf, in_X12, ⟨by decide +kernel, by decide +kernel⟩, by decide +kernel, by decide, by decide⟩
theorem cs_X12_puts_X12_wrong : x_CS M_X12_puts M_X12_wrong 0 := ⟨(by decide +kernel : plainFor (x_y M_X12_wrong) = true), co_X12_wrong, in_X12, ⟨by decide +kernel, by decide +kernel⟩, by decide +kernel, by decide, by decide⟩
theorem cs_X12_puts_X12_sign : x_CS M_X12_puts M_X12_sign 1 := ⟨(by decide +kernel : plainFor (x_y M_X12_sign) = true), co_X12_sign, in_X12, ⟨by decide +kernel, by decide +kernel⟩, by decide +kernel, by decide, by decide⟩
theorem cs_X12_puts_X12_measured : x_CS M_X12_puts M_X12_measured 1 := ⟨(by decide +kernel : plainFor (x_y M_X12_measured) = true), co_X12_measured, in_X12, ⟨by decide +kernel, by decide +kernel⟩, by decide +kernel, by decide, by decide⟩
theorem cs_X12_puts_X12_inline : x_CS M_X12_puts M_X12_inline 0 := ⟨(by decide +kernel : plainFor (x_y M_X12_inline) = true), co_X12_inline, in_X12, ⟨by decide +kernel, by decide +kernel⟩, by decide +kernel, by decide, by decide⟩
set_option maxRecDepth 100000 in
theorem ml_X12_318 : Cond.methodLink RX12 318 (x_y M_X12_inline) ∈ x_w := x_in 1465 rfl rfl
set_option maxRecDepth 100000 in
theorem im_X12_inline : Cond.instanceMethod (x_y M_X12_inline) ∈ x_w := x_in 1467 rfl rfl
set_option maxRecDepth 100000 in
theorem se_X12_inline : Cond.selects (x_y M_X12_inline).cls (x_y M_X12_inline) (x_y M_X12_inline) ∈ x_w := x_in 61 rfl rfl
theorem cs_X12_puts_X12_isSign : x_CS M_X12_puts M_X12_isSign 1 := ⟨(by decide +kernel : plainFor (x_y M_X12_isSign) = true), co_X12_isSign, in_X12, ⟨by decide +kernel, by decide +kernel⟩, by decide +kernel, by decide, by decide⟩
theorem cs_X12_opens_X12_isSign : x_CS M_X12_opens M_X12_isSign 1 := ⟨(by decide +kernel : plainFor (x_y M_X12_isSign) = true), co_X12_isSign, in_X12, ⟨by decide +kernel, by decide +kernel⟩, by decide +kernel, by decide, by decide⟩
theorem cs_X12_opens_X12_bracket : x_CS M_X12_opens M_X12_bracket 0 := ⟨(by decide +kernel : plainFor (x_y M_X12_bracket) = true), co_X12_bracket, in_X12, ⟨by decide +kernel, by decide +kernel⟩, by decide +kernel, by decide, by decide⟩
theorem cs_X12_opens_X12_wrong : x_CS M_X12_opens M_X12_wrong 0 := ⟨(by decide +kernel : plainFor (x_y M_X12_wrong) = true), co_X12_wrong, in_X12, ⟨by decide +kernel, by decide +kernel⟩, by decide +kernel, by decide, by decide⟩
theorem cs_X12_each_X12_emit : x_CS M_X12_each M_X12_emit 1 := ⟨(by decide +kernel : plainFor (x_y M_X12_emit) = true), co_X12_emit, in_X12, ⟨by decide +kernel, by decide +kernel⟩, by decide +kernel, by decide, by decide⟩
theorem cs_X12_each_X12_takeKind : x_CS M_X12_each M_X12_takeKind 0 := ⟨(by decide +kernel : plainFor (x_y M_X12_takeKind) = true), co_X12_takeKind, in_X12, ⟨by decide +kernel, by decide +kernel⟩, by decide +kernel, by decide, by decide⟩
theorem cs_X12_each_X12_keyword : x_CS M_X12_each M_X12_keyword 1 := ⟨(by decide +kernel : plainFor (x_y M_X12_keyword) = true), co_X12_keyword, in_X12, ⟨by decide +kernel, by decide +kernel⟩, by decide +kernel, by decide, by decide⟩
set_option maxRecDepth 100000 in
theorem ml_X12_321 : Cond.methodLink RX12 321 (x_y M_X12_keyword) ∈ x_w := x_in 1549 rfl rfl
set_option maxRecDepth 100000 in
theorem im_X12_keyword : Cond.instanceMethod (x_y M_X12_keyword) ∈ x_w := x_in 1551 rfl rfl
set_option maxRecDepth 100000 in
theorem se_X12_keyword : Cond.selects (x_y M_X12_keyword).cls (x_y M_X12_keyword) (x_y M_X12_keyword) ∈ x_w := x_in 80 rfl rfl
theorem cs_X12_each_X12_takeField : x_CS M_X12_each M_X12_takeField 1 := ⟨(by decide +kernel : plainFor (x_y M_X12_takeField) = true), co_X12_takeField, in_X12, ⟨by decide +kernel, by decide +kernel⟩, by decide +kernel, by decide, by decide⟩
theorem cs_X12_each_X12_levels : x_CS M_X12_each M_X12_levels 0 := ⟨(by decide +kernel : plainFor (x_y M_X12_levels) = true), co_X12_levels, in_X12, ⟨by decide +kernel, by decide +kernel⟩, by decide +kernel, by decide, by decide⟩
set_option maxRecDepth 100000 in
theorem ml_X12_324 : Cond.methodLink RX12 324 (x_y M_X12_levels) ∈ x_w := x_in 1553 rfl rfl
set_option maxRecDepth 100000 in
theorem im_X12_levels : Cond.instanceMethod (x_y M_X12_levels) ∈ x_w := x_in 1555 rfl rfl
set_option maxRecDepth 100000 in
theorem se_X12_levels : Cond.selects (x_y M_X12_levels).cls (x_y M_X12_levels) (x_y M_X12_levels) ∈ x_w := x_in 81 rfl rfl
theorem cs_X12_each_X12_whereOf : x_CS M_X12_each M_X12_whereOf 1 := ⟨(by decide +kernel : plainFor (x_y M_X12_whereOf) = true), co_X12_whereOf, in_X12, ⟨by decide +kernel, by decide +kernel⟩, by decide +kernel, by decide, by decide⟩
set_option maxRecDepth 100000 in
theorem ml_X12_327 : Cond.methodLink RX12 327 (x_y M_X12_whereOf) ∈ x_w := x_in 1537 rfl rfl
set_option maxRecDepth 100000 in
theorem im_X12_whereOf : Cond.instanceMethod (x_y M_X12_whereOf) ∈ x_w := x_in 1539 rfl rfl
set_option maxRecDepth 100000 in
theorem se_X12_whereOf : Cond.selects (x_y M_X12_whereOf).cls (x_y M_X12_whereOf) (x_y M_X12_whereOf) ∈ x_w := x_in 77 rfl rfl
theorem cs_X12_each_X12_block : x_CS M_X12_each M_X12_block 4 := ⟨(by decide +kernel : plainFor (x_y M_X12_block) = true), co_X12_block, in_X12, ⟨by decide +kernel, by decide +kernel⟩, by decide +kernel, by decide, by decide⟩
set_option maxRecDepth 100000 in
theorem ml_X12_330 : Cond.methodLink RX12 330 (x_y M_X12_block) ∈ x_w := x_in 1429 rfl rfl
set_option maxRecDepth 100000 in
theorem im_X12_block : Cond.instanceMethod (x_y M_X12_block) ∈ x_w := x_in 1431 rfl rfl
set_option maxRecDepth 100000 in
theorem se_X12_block : Cond.selects (x_y M_X12_block).cls (x_y M_X12_block) (x_y M_X12_block) ∈ x_w := x_in 52 rfl rfl
theorem cs_X12_each_X12_opens : x_CS M_X12_each M_X12_opens 0 := ⟨(by decide +kernel : plainFor (x_y M_X12_opens) = true), co_X12_opens, in_X12, ⟨by decide +kernel, by decide +kernel⟩, by decide +kernel, by decide, by decide⟩
set_option maxRecDepth 100000 in
theorem ml_X12_334 : Cond.methodLink RX12 334 (x_y M_X12_opens) ∈ x_w := x_in 1433 rfl rfl
set_option maxRecDepth 100000 in
theorem im_X12_opens : Cond.instanceMethod (x_y M_X12_opens) ∈ x_w := x_in 1435 rfl rfl
set_option maxRecDepth 100000 in
theorem se_X12_opens : Cond.selects (x_y M_X12_opens).cls (x_y M_X12_opens) (x_y M_X12_opens) ∈ x_w := x_in 53 rfl rfl
theorem cs_X12_condition_X12_emit : x_CS M_X12_condition M_X12_emit 1 := ⟨(by decide +kernel : plainFor (x_y M_X12_emit) = true), co_X12_emit, in_X12, ⟨by decide +kernel, by decide +kernel⟩, by decide +kernel, by decide, by decide⟩
theorem cs_X12_condition_X12_inline : x_CS M_X12_condition M_X12_inline 0 := ⟨(by decide +kernel : plainFor (x_y M_X12_inline) = true), co_X12_inline, in_X12, ⟨by decide +kernel, by decide +kernel⟩, by decide +kernel, by decide, by decide⟩
theorem cs_X12_condition_X12_block : x_CS M_X12_condition M_X12_block 4 := ⟨(by decide +kernel : plainFor (x_y M_X12_block) = true), co_X12_block, in_X12, ⟨by decide +kernel, by decide +kernel⟩, by decide +kernel, by decide, by decide⟩
theorem cs_X12_condition_X12_opens : x_CS M_X12_condition M_X12_opens 0 := ⟨(by decide +kernel : plainFor (x_y M_X12_opens) = true), co_X12_opens, in_X12, ⟨by decide +kernel, by decide +kernel⟩, by decide +kernel, by decide, by decide⟩
theorem cs_X12_ends_X12_wrong : x_CS M_X12_ends M_X12_wrong 0 := ⟨(by decide +kernel : plainFor (x_y M_X12_wrong) = true), co_X12_wrong, in_X12, ⟨by decide +kernel, by decide +kernel⟩, by decide +kernel, by decide, by decide⟩
theorem cs_X12_ends_X12_emit : x_CS M_X12_ends M_X12_emit 1 := ⟨(by decide +kernel : plainFor (x_y M_X12_emit) = true), co_X12_emit, in_X12, ⟨by decide +kernel, by decide +kernel⟩, by decide +kernel, by decide, by decide⟩
theorem cs_X12_ends_X12_isWord : x_CS M_X12_ends M_X12_isWord 1 := ⟨(by decide +kernel : plainFor (x_y M_X12_isWord) = true), co_X12_isWord, in_X12, ⟨by decide +kernel, by decide +kernel⟩, by decide +kernel, by decide, by decide⟩
theorem cs_X12_ends_X12_block : x_CS M_X12_ends M_X12_block 4 := ⟨(by decide +kernel : plainFor (x_y M_X12_block) = true), co_X12_block, in_X12, ⟨by decide +kernel, by decide +kernel⟩, by decide +kernel, by decide, by decide⟩
theorem cs_X12_ends_X12_opens : x_CS M_X12_ends M_X12_opens 0 := ⟨(by decide +kernel : plainFor (x_y M_X12_opens) = true), co_X12_opens, in_X12, ⟨by decide +kernel, by decide +kernel⟩, by decide +kernel, by decide, by decide⟩
theorem cs_X12_cursor_X12_emit : x_CS M_X12_cursor M_X12_emit 1 := ⟨(by decide +kernel : plainFor (x_y M_X12_emit) = true), co_X12_emit, in_X12, ⟨by decide +kernel, by decide +kernel⟩, by decide +kernel, by decide, by decide⟩
theorem cs_X12_cursor_X12_kindOf : x_CS M_X12_cursor M_X12_kindOf 1 := ⟨(by decide +kernel : plainFor (x_y M_X12_kindOf) = true), co_X12_kindOf, in_X12, ⟨by decide +kernel, by decide +kernel⟩, by decide +kernel, by decide, by decide⟩
theorem cs_X12_cursor_X12_levelOf : x_CS M_X12_cursor M_X12_levelOf 1 := ⟨(by decide +kernel : plainFor (x_y M_X12_levelOf) = true), co_X12_levelOf, in_X12, ⟨by decide +kernel, by decide +kernel⟩, by decide +kernel, by decide, by decide⟩
theorem cs_X12_cursor_X12_wrong : x_CS M_X12_cursor M_X12_wrong 0 := ⟨(by decide +kernel : plainFor (x_y M_X12_wrong) = true), co_X12_wrong, in_X12, ⟨by decide +kernel, by decide +kernel⟩, by decide +kernel, by decide, by decide⟩
theorem cs_X12_cursor_X12_sign : x_CS M_X12_cursor M_X12_sign 1 := ⟨(by decide +kernel : plainFor (x_y M_X12_sign) = true), co_X12_sign, in_X12, ⟨by decide +kernel, by decide +kernel⟩, by decide +kernel, by decide, by decide⟩
theorem cs_X12_cursor_X12_takeField : x_CS M_X12_cursor M_X12_takeField 1 := ⟨(by decide +kernel : plainFor (x_y M_X12_takeField) = true), co_X12_takeField, in_X12, ⟨by decide +kernel, by decide +kernel⟩, by decide +kernel, by decide, by decide⟩
theorem cs_X12_cursor_X12_inline : x_CS M_X12_cursor M_X12_inline 0 := ⟨(by decide +kernel : plainFor (x_y M_X12_inline) = true), co_X12_inline, in_X12, ⟨by decide +kernel, by decide +kernel⟩, by decide +kernel, by decide, by decide⟩
theorem cs_X12_letOrPrint_X12_emit : x_CS M_X12_letOrPrint M_X12_emit 1 := ⟨(by decide +kernel : plainFor (x_y M_X12_emit) = true), co_X12_emit, in_X12, ⟨by decide +kernel, by decide +kernel⟩, by decide +kernel, by decide, by decide⟩
theorem cs_X12_letOrPrint_X12_kindOf : x_CS M_X12_letOrPrint M_X12_kindOf 1 := ⟨(by decide +kernel : plainFor (x_y M_X12_kindOf) = true), co_X12_kindOf, in_X12, ⟨by decide +kernel, by decide +kernel⟩, by decide +kernel, by decide, by decide⟩
theorem cs_X12_letOrPrint_X12_wrong : x_CS M_X12_letOrPrint M_X12_wrong 0 := ⟨(by decide +kernel : plainFor (x_y M_X12_wrong) = true), co_X12_wrong, in_X12, ⟨by decide +kernel, by decide +kernel⟩, by decide +kernel, by decide, by decide⟩
theorem cs_X12_letOrPrint_X12_takeVariable : x_CS M_X12_letOrPrint M_X12_takeVariable 0 := ⟨(by decide +kernel : plainFor (x_y M_X12_takeVariable) = true), co_X12_takeVariable, in_X12, ⟨by decide +kernel, by decide +kernel⟩, by decide +kernel, by decide, by decide⟩
theorem cs_X12_letOrPrint_X12_sign : x_CS M_X12_letOrPrint M_X12_sign 1 := ⟨(by decide +kernel : plainFor (x_y M_X12_sign) = true), co_X12_sign, in_X12, ⟨by decide +kernel, by decide +kernel⟩, by decide +kernel, by decide, by decide⟩
theorem cs_X12_letOrPrint_X12_inline : x_CS M_X12_letOrPrint M_X12_inline 0 := ⟨(by decide +kernel : plainFor (x_y M_X12_inline) = true), co_X12_inline, in_X12, ⟨by decide +kernel, by decide +kernel⟩, by decide +kernel, by decide, by decide⟩
theorem cs_X12_onKind_X12_emit : x_CS M_X12_onKind M_X12_emit 1 := ⟨(by decide +kernel : plainFor (x_y M_X12_emit) = true), co_X12_emit, in_X12, ⟨by decide +kernel, by decide +kernel⟩, by decide +kernel, by decide, by decide⟩
theorem cs_X12_onKind_X12_takeKind : x_CS M_X12_onKind M_X12_takeKind 0 := ⟨(by decide +kernel : plainFor (x_y M_X12_takeKind) = true), co_X12_takeKind, in_X12, ⟨by decide +kernel, by decide +kernel⟩, by decide +kernel, by decide, by decide⟩
theorem cs_X12_onKind_X12_puts : x_CS M_X12_onKind M_X12_puts 2 := ⟨(by decide +kernel : plainFor (x_y M_X12_puts) = true), co_X12_puts, in_X12, ⟨by decide +kernel, by decide +kernel⟩, by decide +kernel, by decide, by decide⟩
set_option maxRecDepth 100000 in
theorem ml_X12_337 : Cond.methodLink RX12 337 (x_y M_X12_puts) ∈ x_w := x_in 1533 rfl rfl
set_option maxRecDepth 100000 in
theorem im_X12_puts : Cond.instanceMethod (x_y M_X12_puts) ∈ x_w := x_in 1535 rfl rfl
set_option maxRecDepth 100000 in
theorem se_X12_puts : Cond.selects (x_y M_X12_puts).cls (x_y M_X12_puts) (x_y M_X12_puts) ∈ x_w := x_in 76 rfl rfl
theorem cs_X12_onKind_X12_whereOf : x_CS M_X12_onKind M_X12_whereOf 1 := ⟨(by decide +kernel : plainFor (x_y M_X12_whereOf) = true), co_X12_whereOf, in_X12, ⟨by decide +kernel, by decide +kernel⟩, by decide +kernel, by decide, by decide⟩
theorem cs_X12_onKind_X12_sign : x_CS M_X12_onKind M_X12_sign 1 := ⟨(by decide +kernel : plainFor (x_y M_X12_sign) = true), co_X12_sign, in_X12, ⟨by decide +kernel, by decide +kernel⟩, by decide +kernel, by decide, by decide⟩
theorem cs_X12_statement_X12_isSign : x_CS M_X12_statement M_X12_isSign 1 := ⟨(by decide +kernel : plainFor (x_y M_X12_isSign) = true), co_X12_isSign, in_X12, ⟨by decide +kernel, by decide +kernel⟩, by decide +kernel, by decide, by decide⟩
theorem cs_X12_statement_X12_ends : x_CS M_X12_statement M_X12_ends 0 := ⟨(by decide +kernel : plainFor (x_y M_X12_ends) = true), co_X12_ends, in_X12, ⟨by decide +kernel, by decide +kernel⟩, by decide +kernel, by decide, by decide⟩
set_option maxRecDepth 100000 in
theorem ml_X12_341 : Cond.methodLink RX12 341 (x_y M_X12_ends) ∈ x_w := x_in 1413 rfl rfl
set_option maxRecDepth 100000 in
theorem im_X12_ends : Cond.instanceMethod (x_y M_X12_ends) ∈ x_w := x_in 1415 rfl rfl
set_option maxRecDepth 100000 in
theorem se_X12_ends : Cond.selects (x_y M_X12_ends).cls (x_y M_X12_ends) (x_y M_X12_ends) ∈ x_w := x_in 48 rfl rfl
theorem cs_X12_statement_X12_cursor : x_CS M_X12_statement M_X12_cursor 1 := ⟨(by decide +kernel : plainFor (x_y M_X12_cursor) = true), co_X12_cursor, in_X12, ⟨by decide +kernel, by decide +kernel⟩, by decide +kernel, by decide, by decide⟩
set_option maxRecDepth 100000 in
theorem ml_X12_344 : Cond.methodLink RX12 344 (x_y M_X12_cursor) ∈ x_w := x_in 1441 rfl rfl
set_option maxRecDepth 100000 in
theorem im_X12_cursor : Cond.instanceMethod (x_y M_X12_cursor) ∈ x_w := x_in 1443 rfl rfl
set_option maxRecDepth 100000 in
theorem se_X12_cursor : Cond.selects (x_y M_X12_cursor).cls (x_y M_X12_cursor) (x_y M_X12_cursor) ∈ x_w := x_in 55 rfl rfl
theorem cs_X12_statement_X12_wrong : x_CS M_X12_statement M_X12_wrong 0 := ⟨(by decide +kernel : plainFor (x_y M_X12_wrong) = true), co_X12_wrong, in_X12, ⟨by decide +kernel, by decide +kernel⟩, by decide +kernel, by decide, by decide⟩
theorem cs_X12_statement_X12_emit : x_CS M_X12_statement M_X12_emit 1 := ⟨(by decide +kernel : plainFor (x_y M_X12_emit) = true), co_X12_emit, in_X12, ⟨by decide +kernel, by decide +kernel⟩, by decide +kernel, by decide, by decide⟩
theorem cs_X12_statement_X12_newKind : x_CS M_X12_statement M_X12_newKind 0 := ⟨(by decide +kernel : plainFor (x_y M_X12_newKind) = true), co_X12_newKind, in_X12, ⟨by decide +kernel, by decide +kernel⟩, by decide +kernel, by decide, by decide⟩
set_option maxRecDepth 100000 in
theorem ml_X12_348 : Cond.methodLink RX12 348 (x_y M_X12_newKind) ∈ x_w := x_in 1523 rfl rfl
set_option maxRecDepth 100000 in
theorem im_X12_newKind : Cond.instanceMethod (x_y M_X12_newKind) ∈ x_w := x_in 1525 rfl rfl
set_option maxRecDepth 100000 in
theorem se_X12_newKind : Cond.selects (x_y M_X12_newKind).cls (x_y M_X12_newKind) (x_y M_X12_newKind) ∈ x_w := x_in 74 rfl rfl
theorem cs_X12_statement_X12_onKind : x_CS M_X12_statement M_X12_onKind 1 := ⟨(by decide +kernel : plainFor (x_y M_X12_onKind) = true), co_X12_onKind, in_X12, ⟨by decide +kernel, by decide +kernel⟩, by decide +kernel, by decide, by decide⟩
set_option maxRecDepth 100000 in
theorem ml_X12_351 : Cond.methodLink RX12 351 (x_y M_X12_onKind) ∈ x_w := x_in 1529 rfl rfl
set_option maxRecDepth 100000 in
theorem im_X12_onKind : Cond.instanceMethod (x_y M_X12_onKind) ∈ x_w := x_in 1531 rfl rfl
set_option maxRecDepth 100000 in
theorem se_X12_onKind : Cond.selects (x_y M_X12_onKind).cls (x_y M_X12_onKind) (x_y M_X12_onKind) ∈ x_w := x_in 75 rfl rfl
theorem cs_X12_statement_X12_letOrPrint : x_CS M_X12_statement M_X12_letOrPrint 1 := ⟨(by decide +kernel : plainFor (x_y M_X12_letOrPrint) = true), co_X12_letOrPrint, in_X12, ⟨by decide +kernel, by decide +kernel⟩, by decide +kernel, by decide, by decide⟩
set_option maxRecDepth 100000 in
theorem ml_X12_354 : Cond.methodLink RX12 354 (x_y M_X12_letOrPrint) ∈ x_w := x_in 1541 rfl rfl
set_option maxRecDepth 100000 in
theorem im_X12_letOrPrint : Cond.instanceMethod (x_y M_X12_letOrPrint) ∈ x_w := x_in 1543 rfl rfl
set_option maxRecDepth 100000 in
theorem se_X12_letOrPrint : Cond.selects (x_y M_X12_letOrPrint).cls (x_y M_X12_letOrPrint) (x_y M_X12_letOrPrint) ∈ x_w := x_in 78 rfl rfl
theorem cs_X12_statement_X12_each : x_CS M_X12_statement M_X12_each 0 := ⟨(by decide +kernel : plainFor (x_y M_X12_each) = true), co_X12_each, in_X12, ⟨by decide +kernel, by decide +kernel⟩, by decide +kernel, by decide, by decide⟩
set_option maxRecDepth 100000 in
theorem ml_X12_357 : Cond.methodLink RX12 357 (x_y M_X12_each) ∈ x_w := x_in 1545 rfl rfl
set_option maxRecDepth 100000 in
theorem im_X12_each : Cond.instanceMethod (x_y M_X12_each) ∈ x_w := x_in 1547 rfl rfl
set_option maxRecDepth 100000 in
theorem se_X12_each : Cond.selects (x_y M_X12_each).cls (x_y M_X12_each) (x_y M_X12_each) ∈ x_w := x_in 79 rfl rfl
theorem cs_X12_statement_X12_condition : x_CS M_X12_statement M_X12_condition 1 := ⟨(by decide +kernel : plainFor (x_y M_X12_condition) = true), co_X12_condition, in_X12, ⟨by decide +kernel, by decide +kernel⟩, by decide +kernel, by decide, by decide⟩
set_option maxRecDepth 100000 in
theorem ml_X12_360 : Cond.methodLink RX12 360 (x_y M_X12_condition) ∈ x_w := x_in 1557 rfl rfl
set_option maxRecDepth 100000 in
theorem im_X12_condition : Cond.instanceMethod (x_y M_X12_condition) ∈ x_w := x_in 1559 rfl rfl
set_option maxRecDepth 100000 in
theorem se_X12_condition : Cond.selects (x_y M_X12_condition).cls (x_y M_X12_condition) (x_y M_X12_condition) ∈ x_w := x_in 82 rfl rfl
theorem cs_X12_compile_X12_statement : x_CS M_X12_compile M_X12_statement 0 := ⟨(by decide +kernel : plainFor (x_y M_X12_statement) = true), co_X12_statement, in_X12, ⟨by decide +kernel, by decide +kernel⟩, by decide +kernel, by decide, by decide⟩
set_option maxRecDepth 100000 in
theorem ml_X12_363 : Cond.methodLink RX12 363 (x_y M_X12_statement) ∈ x_w := x_in 1405 rfl rfl
set_option maxRecDepth 100000 in
theorem im_X12_statement : Cond.instanceMethod (x_y M_X12_statement) ∈ x_w := x_in 1407 rfl rfl
set_option maxRecDepth 100000 in
theorem se_X12_statement : Cond.selects (x_y M_X12_statement).cls (x_y M_X12_statement) (x_y M_X12_statement) ∈ x_w := x_in 46 rfl rfl
theorem cs_X12_compile_X12_wrong : x_CS M_X12_compile M_X12_wrong 0 := ⟨(by decide +kernel : plainFor (x_y M_X12_wrong) = true), co_X12_wrong, in_X12, ⟨by decide +kernel, by decide +kernel⟩, by decide +kernel, by decide, by decide⟩
theorem cs_X12_eval_X12_valueOf : x_CS M_X12_eval M_X12_valueOf 2 := ⟨(by decide +kernel : plainFor (x_y M_X12_valueOf) = true), co_X12_valueOf, in_X12, ⟨by decide +kernel, by decide +kernel⟩, by decide +kernel, by decide, by decide⟩
set_option maxRecDepth 100000 in
theorem ml_X12_366 : Cond.methodLink RX12 366 (x_y M_X12_valueOf) ∈ x_w := x_in 1593 rfl rfl
set_option maxRecDepth 100000 in
theorem im_X12_valueOf : Cond.instanceMethod (x_y M_X12_valueOf) ∈ x_w := x_in 1595 rfl rfl
set_option maxRecDepth 100000 in
theorem se_X12_valueOf : Cond.selects (x_y M_X12_valueOf).cls (x_y M_X12_valueOf) (x_y M_X12_valueOf) ∈ x_w := x_in 89 rfl rfl
theorem cs_X12_eval_X12_cursorThere : x_CS M_X12_eval M_X12_cursorThere 1 := ⟨(by decide +kernel : plainFor (x_y M_X12_cursorThere) = true), co_X12_cursorThere, in_X12, ⟨by decide +kernel, by decide +kernel⟩, by decide +kernel, by decide, by decide⟩
set_option maxRecDepth 100000 in
theorem ml_X12_370 : Cond.methodLink RX12 370 (x_y M_X12_cursorThere) ∈ x_w := x_in 1597 rfl rfl
set_option maxRecDepth 100000 in
theorem im_X12_cursorThere : Cond.instanceMethod (x_y M_X12_cursorThere) ∈ x_w := x_in 1599 rfl rfl
set_option maxRecDepth 100000 in
theorem se_X12_cursorThere : Cond.selects (x_y M_X12_cursorThere).cls (x_y M_X12_cursorThere) (x_y M_X12_cursorThere) ∈ x_w := x_in 90 rfl rfl
theorem cs_X12_eval_X12_nextOf : x_CS M_X12_eval M_X12_nextOf 2 := ⟨(by decide +kernel : plainFor (x_y M_X12_nextOf) = true), co_X12_nextOf, in_X12, ⟨by decide +kernel, by decide +kernel⟩, by decide +kernel, by decide, by decide⟩
set_option maxRecDepth 100000 in
theorem ml_X12_373 : Cond.methodLink RX12 373 (x_y M_X12_nextOf) ∈ x_w := x_in 1601 rfl rfl
set_option maxRecDepth 100000 in
theorem im_X12_nextOf : Cond.instanceMethod (x_y M_X12_nextOf) ∈ x_w := x_in 1603 rfl rfl
set_option maxRecDepth 100000 in
theorem se_X12_nextOf : Cond.selects (x_y M_X12_nextOf).cls (x_y M_X12_nextOf) (x_y M_X12_nextOf) ∈ x_w := x_in 91 rfl rfl
theorem cs_X12_eval_X12_endOf : x_CS M_X12_eval M_X12_endOf 1 := ⟨(by decide +kernel : plainFor (x_y M_X12_endOf) = true), co_X12_endOf, in_X12, ⟨by decide +kernel, by decide +kernel⟩, by decide +kernel, by decide, by decide⟩
set_option maxRecDepth 100000 in
theorem ml_X12_376 : Cond.methodLink RX12 376 (x_y M_X12_endOf) ∈ x_w := x_in 1605 rfl rfl
set_option maxRecDepth 100000 in
theorem im_X12_endOf : Cond.instanceMethod (x_y M_X12_endOf) ∈ x_w := x_in 1607 rfl rfl
set_option maxRecDepth 100000 in
theorem se_X12_endOf : Cond.selects (x_y M_X12_endOf).cls (x_y M_X12_endOf) (x_y M_X12_endOf) ∈ x_w := x_in 92 rfl rfl
theorem cs_X12_eval_X12_aggregated : x_CS M_X12_eval M_X12_aggregated 4 := ⟨(by decide +kernel : plainFor (x_y M_X12_aggregated) = true), co_X12_aggregated, in_X12, ⟨by decide +kernel, by decide +kernel⟩, by decide +kernel, by decide, by decide⟩
set_option maxRecDepth 100000 in
theorem ml_X12_379 : Cond.methodLink RX12 379 (x_y M_X12_aggregated) ∈ x_w := x_in 1609 rfl rfl
set_option maxRecDepth 100000 in
theorem im_X12_aggregated : Cond.instanceMethod (x_y M_X12_aggregated) ∈ x_w := x_in 1611 rfl rfl
set_option maxRecDepth 100000 in
theorem se_X12_aggregated : Cond.selects (x_y M_X12_aggregated).cls (x_y M_X12_aggregated) (x_y M_X12_aggregated) ∈ x_w := x_in 93 rfl rfl
theorem cs_X12_eval_X12_operate : x_CS M_X12_eval M_X12_operate 3 := ⟨(by decide +kernel : plainFor (x_y M_X12_operate) = true), co_X12_operate, in_X12, ⟨by decide +kernel, by decide +kernel⟩, by decide +kernel, by decide, by decide⟩
set_option maxRecDepth 100000 in
theorem ml_X12_383 : Cond.methodLink RX12 383 (x_y M_X12_operate) ∈ x_w := x_in 1613 rfl rfl
set_option maxRecDepth 100000 in
theorem st_X12_operate : Cond.static (x_y M_X12_operate) ∈ x_w := x_in 1614 rfl rfl
theorem cs_X12_choose_X12_eval : x_CS M_X12_choose M_X12_eval 3 := ⟨(by decide +kernel : plainFor (x_y M_X12_eval) = true), co_X12_eval, in_X12, ⟨by decide +kernel, by decide +kernel⟩, by decide +kernel, by decide, by decide⟩
set_option maxRecDepth 100000 in
theorem ml_X12_387 : Cond.methodLink RX12 387 (x_y M_X12_eval) ∈ x_w := x_in 1589 rfl rfl
set_option maxRecDepth 100000 in
theorem im_X12_eval : Cond.instanceMethod (x_y M_X12_eval) ∈ x_w := x_in 1591 rfl rfl
set_option maxRecDepth 100000 in
theorem se_X12_eval : Cond.selects (x_y M_X12_eval).cls (x_y M_X12_eval) (x_y M_X12_eval) ∈ x_w := x_in 88 rfl rfl
theorem cs_X12_insert_X12_cut : x_CS M_X12_insert M_X12_cut 3 := ⟨(by decide +kernel : plainFor (x_y M_X12_cut) = true), co_X12_cut, in_X12, ⟨by decide +kernel, by decide +kernel⟩, by decide +kernel, by decide, by decide⟩
set_option maxRecDepth 100000 in
theorem ml_X12_390 : Cond.methodLink RX12 390 (x_y M_X12_cut) ∈ x_w := x_in 1581 rfl rfl
set_option maxRecDepth 100000 in
theorem im_X12_cut : Cond.instanceMethod (x_y M_X12_cut) ∈ x_w := x_in 1583 rfl rfl
set_option maxRecDepth 100000 in
theorem se_X12_cut : Cond.selects (x_y M_X12_cut).cls (x_y M_X12_cut) (x_y M_X12_cut) ∈ x_w := x_in 86 rfl rfl
theorem cs_X12_setAll_X12_choose : x_CS M_X12_setAll M_X12_choose 2 := ⟨(by decide +kernel : plainFor (x_y M_X12_choose) = true), co_X12_choose, in_X12, ⟨by decide +kernel, by decide +kernel⟩, by decide +kernel, by decide, by decide⟩
set_option maxRecDepth 100000 in
theorem ml_X12_393 : Cond.methodLink RX12 393 (x_y M_X12_choose) ∈ x_w := x_in 1585 rfl rfl
set_option maxRecDepth 100000 in
theorem im_X12_choose : Cond.instanceMethod (x_y M_X12_choose) ∈ x_w := x_in 1587 rfl rfl
set_option maxRecDepth 100000 in
theorem se_X12_choose : Cond.selects (x_y M_X12_choose).cls (x_y M_X12_choose) (x_y M_X12_choose) ∈ x_w := x_in 87 rfl rfl
theorem cs_X12_setAll_X12_eval : x_CS M_X12_setAll M_X12_eval 3 := ⟨(by decide +kernel : plainFor (x_y M_X12_eval) = true), co_X12_eval, in_X12, ⟨by decide +kernel, by decide +kernel⟩, by decide +kernel, by decide, by decide⟩
theorem cs_X12_setAll_X12_cut : x_CS M_X12_setAll M_X12_cut 3 := ⟨(by decide +kernel : plainFor (x_y M_X12_cut) = true), co_X12_cut, in_X12, ⟨by decide +kernel, by decide +kernel⟩, by decide +kernel, by decide, by decide⟩
theorem cs_X12_beginEach_X12_choose : x_CS M_X12_beginEach M_X12_choose 2 := ⟨(by decide +kernel : plainFor (x_y M_X12_choose) = true), co_X12_choose, in_X12, ⟨by decide +kernel, by decide +kernel⟩, by decide +kernel, by decide, by decide⟩
theorem cs_X12_nextEach_X12_cursorThere : x_CS M_X12_nextEach M_X12_cursorThere 1 := ⟨(by decide +kernel : plainFor (x_y M_X12_cursorThere) = true), co_X12_cursorThere, in_X12, ⟨by decide +kernel, by decide +kernel⟩, by decide +kernel, by decide, by decide⟩
theorem cs_X12_put_X12_cursorThere : x_CS M_X12_put M_X12_cursorThere 1 := ⟨(by decide +kernel : plainFor (x_y M_X12_cursorThere) = true), co_X12_cursorThere, in_X12, ⟨by decide +kernel, by decide +kernel⟩, by decide +kernel, by decide, by decide⟩
theorem cs_X12_put_X12_cut : x_CS M_X12_put M_X12_cut 3 := ⟨(by decide +kernel : plainFor (x_y M_X12_cut) = true), co_X12_cut, in_X12, ⟨by decide +kernel, by decide +kernel⟩, by decide +kernel, by decide, by decide⟩
theorem cs_X12_step_X12_pay : x_CS M_X12_step M_X12_pay 0 := ⟨(by decide +kernel : plainFor (x_y M_X12_pay) = true), co_X12_pay, in_X12, ⟨by decide +kernel, by decide +kernel⟩, by decide +kernel, by decide, by decide⟩
set_option maxRecDepth 100000 in
theorem ml_X12_396 : Cond.methodLink RX12 396 (x_y M_X12_pay) ∈ x_w := x_in 1573 rfl rfl
set_option maxRecDepth 100000 in
theorem im_X12_pay : Cond.instanceMethod (x_y M_X12_pay) ∈ x_w := x_in 1575 rfl rfl
set_option maxRecDepth 100000 in
theorem se_X12_pay : Cond.selects (x_y M_X12_pay).cls (x_y M_X12_pay) (x_y M_X12_pay) ∈ x_w := x_in 84 rfl rfl
theorem cs_X12_step_X12_insert : x_CS M_X12_step M_X12_insert 1 := ⟨(by decide +kernel : plainFor (x_y M_X12_insert) = true), co_X12_insert, in_X12, ⟨by decide +kernel, by decide +kernel⟩, by decide +kernel, by decide, by decide⟩
set_option maxRecDepth 100000 in
theorem ml_X12_399 : Cond.methodLink RX12 399 (x_y M_X12_insert) ∈ x_w := x_in 1577 rfl rfl
set_option maxRecDepth 100000 in
theorem im_X12_insert : Cond.instanceMethod (x_y M_X12_insert) ∈ x_w := x_in 1579 rfl rfl
set_option maxRecDepth 100000 in
theorem se_X12_insert : Cond.selects (x_y M_X12_insert).cls (x_y M_X12_insert) (x_y M_X12_insert) ∈ x_w := x_in 85 rfl rfl
theorem cs_X12_step_X12_choose : x_CS M_X12_step M_X12_choose 2 := ⟨(by decide +kernel : plainFor (x_y M_X12_choose) = true), co_X12_choose, in_X12, ⟨by decide +kernel, by decide +kernel⟩, by decide +kernel, by decide, by decide⟩
theorem cs_X12_step_X12_setAll : x_CS M_X12_step M_X12_setAll 1 := ⟨(by decide +kernel : plainFor (x_y M_X12_setAll) = true), co_X12_setAll, in_X12, ⟨by decide +kernel, by decide +kernel⟩, by decide +kernel, by decide, by decide⟩
set_option maxRecDepth 100000 in
theorem ml_X12_402 : Cond.methodLink RX12 402 (x_y M_X12_setAll) ∈ x_w := x_in 1616 rfl rfl
set_option maxRecDepth 100000 in
theorem im_X12_setAll : Cond.instanceMethod (x_y M_X12_setAll) ∈ x_w := x_in 1618 rfl rfl
set_option maxRecDepth 100000 in
theorem se_X12_setAll : Cond.selects (x_y M_X12_setAll).cls (x_y M_X12_setAll) (x_y M_X12_setAll) ∈ x_w := x_in 94 rfl rfl
theorem cs_X12_step_X12_beginEach : x_CS M_X12_step M_X12_beginEach 1 := ⟨(by decide +kernel : plainFor (x_y M_X12_beginEach) = true), co_X12_beginEach, in_X12, ⟨by decide +kernel, by decide +kernel⟩, by decide +kernel, by decide, by decide⟩
set_option maxRecDepth 100000 in
theorem ml_X12_405 : Cond.methodLink RX12 405 (x_y M_X12_beginEach) ∈ x_w := x_in 1620 rfl rfl
set_option maxRecDepth 100000 in
theorem im_X12_beginEach : Cond.instanceMethod (x_y M_X12_beginEach) ∈ x_w := x_in 1622 rfl rfl
set_option maxRecDepth 100000 in
theorem se_X12_beginEach : Cond.selects (x_y M_X12_beginEach).cls (x_y M_X12_beginEach) (x_y M_X12_beginEach) ∈ x_w := x_in 95 rfl rfl
theorem cs_X12_step_X12_nextEach : x_CS M_X12_step M_X12_nextEach 1 := ⟨(by decide +kernel : plainFor (x_y M_X12_nextEach) = true), co_X12_nextEach, in_X12, ⟨by decide +kernel, by decide +kernel⟩, by decide +kernel, by decide, by decide⟩
set_option maxRecDepth 100000 in
theorem ml_X12_408 : Cond.methodLink RX12 408 (x_y M_X12_nextEach) ∈ x_w := x_in 1624 rfl rfl
set_option maxRecDepth 100000 in
theorem im_X12_nextEach : Cond.instanceMethod (x_y M_X12_nextEach) ∈ x_w := x_in 1626 rfl rfl
set_option maxRecDepth 100000 in
theorem se_X12_nextEach : Cond.selects (x_y M_X12_nextEach).cls (x_y M_X12_nextEach) (x_y M_X12_nextEach) ∈ x_w := x_in 96 rfl rfl
theorem cs_X12_step_X12_put : x_CS M_X12_step M_X12_put 1 := ⟨(by decide +kernel : plainFor (x_y M_X12_put) = true), co_X12_put, in_X12, ⟨by decide +kernel, by decide +kernel⟩, by decide +kernel, by decide, by decide⟩
set_option maxRecDepth 100000 in
theorem ml_X12_411 : Cond.methodLink RX12 411 (x_y M_X12_put) ∈ x_w := x_in 1628 rfl rfl
set_option maxRecDepth 100000 in
theorem im_X12_put : Cond.instanceMethod (x_y M_X12_put) ∈ x_w := x_in 1630 rfl rfl
set_option maxRecDepth 100000 in
theorem se_X12_put : Cond.selects (x_y M_X12_put).cls (x_y M_X12_put) (x_y M_X12_put) ∈ x_w := x_in 97 rfl rfl
theorem cs_X12_step_X12_cursorThere : x_CS M_X12_step M_X12_cursorThere 1 := ⟨(by decide +kernel : plainFor (x_y M_X12_cursorThere) = true), co_X12_cursorThere, in_X12, ⟨by decide +kernel, by decide +kernel⟩, by decide +kernel, by decide, by decide⟩
theorem cs_X12_step_X12_eval : x_CS M_X12_step M_X12_eval 3 := ⟨(by decide +kernel : plainFor (x_y M_X12_eval) = true), co_X12_eval, in_X12, ⟨by decide +kernel, by decide +kernel⟩, by decide +kernel, by decide, by decide⟩
theorem cs_X12_load_X12_scan : x_CS M_X12_load M_X12_scan 0 := ⟨(by decide +kernel : plainFor (x_y M_X12_scan) = true), co_X12_scan, in_X12, ⟨by decide +kernel, by decide +kernel⟩, by decide +kernel, by decide, by decide⟩
set_option maxRecDepth 100000 in
theorem ml_X12_414 : Cond.methodLink RX12 414 (x_y M_X12_scan) ∈ x_w := x_in 1380 rfl rfl
set_option maxRecDepth 100000 in
theorem im_X12_scan : Cond.instanceMethod (x_y M_X12_scan) ∈ x_w := x_in 1382 rfl rfl
set_option maxRecDepth 100000 in
theorem se_X12_scan : Cond.selects (x_y M_X12_scan).cls (x_y M_X12_scan) (x_y M_X12_scan) ∈ x_w := x_in 42 rfl rfl
theorem cs_X12_load_X12_compile : x_CS M_X12_load M_X12_compile 0 := ⟨(by decide +kernel : plainFor (x_y M_X12_compile) = true), co_X12_compile, in_X12, ⟨by decide +kernel, by decide +kernel⟩, by decide +kernel, by decide, by decide⟩
set_option maxRecDepth 100000 in
theorem ml_X12_417 : Cond.methodLink RX12 417 (x_y M_X12_compile) ∈ x_w := x_in 1401 rfl rfl
set_option maxRecDepth 100000 in
theorem im_X12_compile : Cond.instanceMethod (x_y M_X12_compile) ∈ x_w := x_in 1403 rfl rfl
set_option maxRecDepth 100000 in
theorem se_X12_compile : Cond.selects (x_y M_X12_compile).cls (x_y M_X12_compile) (x_y M_X12_compile) ∈ x_w := x_in 45 rfl rfl
theorem cs_X12_run_X12_step : x_CS M_X12_run M_X12_step 1 := ⟨(by decide +kernel : plainFor (x_y M_X12_step) = true), co_X12_step, in_X12, ⟨by decide +kernel, by decide +kernel⟩, by decide +kernel, by decide, by decide⟩
set_option maxRecDepth 100000 in
theorem ml_X12_420 : Cond.methodLink RX12 420 (x_y M_X12_step) ∈ x_w := x_in 1569 rfl rfl
set_option maxRecDepth 100000 in
theorem im_X12_step : Cond.instanceMethod (x_y M_X12_step) ∈ x_w := x_in 1571 rfl rfl
set_option maxRecDepth 100000 in
theorem se_X12_step : Cond.selects (x_y M_X12_step).cls (x_y M_X12_step) (x_y M_X12_step) ∈ x_w := x_in 83 rfl rfl
theorem cs_L_feed_X11_feed : x_CS M_L_feed M_X11_feed 2 := ⟨(by decide +kernel : plainFor (x_y M_X11_feed) = true), co_X11_feed, in_X11, ⟨by decide +kernel, by decide +kernel⟩, by decide +kernel, by decide, by decide⟩
set_option maxRecDepth 100000 in
theorem ml_L_7 : Cond.methodLink RL 7 (x_y M_X11_feed) ∈ x_w := x_in 621 rfl rfl
set_option maxRecDepth 100000 in
theorem im_X11_feed : Cond.instanceMethod (x_y M_X11_feed) ∈ x_w := x_in 622 rfl rfl
set_option maxRecDepth 100000 in
theorem se_X11_feed : Cond.selects (x_y M_X11_feed).cls (x_y M_X11_feed) (x_y M_X11_feed) ∈ x_w := x_in 623 rfl rfl
theorem cs_L_load_X11_load : x_CS M_L_load M_X11_load 0 := ⟨(by decide +kernel : plainFor (x_y M_X11_load) = true), co_X11_load, in_X11, ⟨by decide +kernel, by decide +kernel⟩, by decide +kernel, by decide, by decide⟩
set_option maxRecDepth 100000 in
theorem ml_L_17 : Cond.methodLink RL 17 (x_y M_X11_load) ∈ x_w := x_in 711 rfl rfl
set_option maxRecDepth 100000 in
theorem im_X11_load : Cond.instanceMethod (x_y M_X11_load) ∈ x_w := x_in 712 rfl rfl
set_option maxRecDepth 100000 in
theorem se_X11_load : Cond.selects (x_y M_X11_load).cls (x_y M_X11_load) (x_y M_X11_load) ∈ x_w := x_in 713 rfl rfl
theorem cs_L_run_X11_run : x_CS M_L_run M_X11_run 1 := ⟨(by decide +kernel : plainFor (x_y M_X11_run) = true), co_X11_run, in_X11, ⟨by decide +kernel, by decide +kernel⟩, by decide +kernel, by decide, by decide⟩
set_option maxRecDepth 100000 in
theorem ml_L_21 : Cond.methodLink RL 21 (x_y M_X11_run) ∈ x_w := x_in 1064 rfl rfl
set_option maxRecDepth 100000 in
theorem im_X11_run : Cond.instanceMethod (x_y M_X11_run) ∈ x_w := x_in 1065 rfl rfl
set_option maxRecDepth 100000 in
theorem se_X11_run : Cond.selects (x_y M_X11_run).cls (x_y M_X11_run) (x_y M_X11_run) ∈ x_w := x_in 1066 rfl rfl
theorem cs_L_print_X11_print : x_CS M_L_print M_X11_print 1 := ⟨(by decide +kernel : plainFor (x_y M_X11_print) = true), co_X11_print, in_X11, ⟨by decide +kernel, by decide +kernel⟩, by decide +kernel, by decide, by decide⟩
set_option maxRecDepth 100000 in
theorem ml_L_25 : Cond.methodLink RL 25 (x_y M_X11_print) ∈ x_w := x_in 1156 rfl rfl
set_option maxRecDepth 100000 in
theorem im_X11_print : Cond.instanceMethod (x_y M_X11_print) ∈ x_w := x_in 1157 rfl rfl
set_option maxRecDepth 100000 in
theorem se_X11_print : Cond.selects (x_y M_X11_print).cls (x_y M_X11_print) (x_y M_X11_print) ∈ x_w := x_in 1158 rfl rfl
theorem cs_L_word_X11_word : x_CS M_L_word M_X11_word 2 := ⟨(by decide +kernel : plainFor (x_y M_X11_word) = true), co_X11_word, in_X11, ⟨by decide +kernel, by decide +kernel⟩, by decide +kernel, by decide, by decide⟩
set_option maxRecDepth 100000 in
theorem ml_L_30 : Cond.methodLink RL 30 (x_y M_X11_word) ∈ x_w := x_in 1178 rfl rfl
set_option maxRecDepth 100000 in
theorem im_X11_word : Cond.instanceMethod (x_y M_X11_word) ∈ x_w := x_in 1179 rfl rfl
set_option maxRecDepth 100000 in
theorem se_X11_word : Cond.selects (x_y M_X11_word).cls (x_y M_X11_word) (x_y M_X11_word) ∈ x_w := x_in 1180 rfl rfl
theorem cs_L_law_X11_init : x_CS M_L_law M_X11_init 0 := ⟨(by decide +kernel : plainFor (x_y M_X11_init) = true), co_X11_init, in_X11, ⟨by decide +kernel, by decide +kernel⟩, by decide +kernel, by decide, by decide⟩
set_option maxRecDepth 100000 in
theorem ml_L_34 : Cond.methodLink RL 34 (x_y M_X11_init) ∈ x_w := x_in 128 rfl rfl
set_option maxRecDepth 100000 in
theorem im_X11_init : Cond.instanceMethod (x_y M_X11_init) ∈ x_w := x_in 129 rfl rfl
theorem cs_L_law_X12_init : x_CS M_L_law M_X12_init 0 := ⟨(by decide +kernel : plainFor (x_y M_X12_init) = true), co_X12_init, in_X12, ⟨by decide +kernel, by decide +kernel⟩, by decide +kernel, by decide, by decide⟩
set_option maxRecDepth 100000 in
theorem ml_L_37 : Cond.methodLink RL 37 (x_y M_X12_init) ∈ x_w := x_in 1188 rfl rfl
set_option maxRecDepth 100000 in
theorem im_X12_init : Cond.instanceMethod (x_y M_X12_init) ∈ x_w := x_in 1189 rfl rfl
theorem cs_L_law_L_feed : x_CS M_L_law M_L_feed 4 := ⟨(by decide +kernel : plainFor (x_y M_L_feed) = true), co_L_feed, in_L, ⟨by decide +kernel, by decide +kernel⟩, by decide +kernel, by decide, by decide⟩
set_option maxRecDepth 100000 in
theorem ml_L_40 : Cond.methodLink RL 40 (x_y M_L_feed) ∈ x_w := x_in 616 rfl rfl
set_option maxRecDepth 100000 in
theorem st_L_feed : Cond.static (x_y M_L_feed) ∈ x_w := x_in 617 rfl rfl
theorem cs_L_law_X12_feed : x_CS M_L_law M_X12_feed 2 := ⟨(by decide +kernel : plainFor (x_y M_X12_feed) = true), co_X12_feed, in_X12, ⟨by decide +kernel, by decide +kernel⟩, by decide +kernel, by decide, by decide⟩
set_option maxRecDepth 100000 in
theorem ml_L_45 : Cond.methodLink RL 45 (x_y M_X12_feed) ∈ x_w := x_in 1372 rfl rfl
set_option maxRecDepth 100000 in
theorem im_X12_feed : Cond.instanceMethod (x_y M_X12_feed) ∈ x_w := x_in 1373 rfl rfl
set_option maxRecDepth 100000 in
theorem se_X12_feed : Cond.selects (x_y M_X12_feed).cls (x_y M_X12_feed) (x_y M_X12_feed) ∈ x_w := x_in 1374 rfl rfl
theorem cs_L_law_X12_thrown : x_CS M_L_law M_X12_thrown 0 := ⟨(by decide +kernel : plainFor (x_y M_X12_thrown) = true), co_X12_thrown, in_X12, ⟨by decide +kernel, by decide +kernel⟩, by decide +kernel, by decide, by decide⟩
set_option maxRecDepth 100000 in
theorem ml_L_46 : Cond.methodLink RL 46 (x_y M_X12_thrown) ∈ x_w := x_in 1368 rfl rfl
set_option maxRecDepth 100000 in
theorem im_X12_thrown : Cond.instanceMethod (x_y M_X12_thrown) ∈ x_w := x_in 1369 rfl rfl
set_option maxRecDepth 100000 in
theorem se_X12_thrown : Cond.selects (x_y M_X12_thrown).cls (x_y M_X12_thrown) (x_y M_X12_thrown) ∈ x_w := x_in 1370 rfl rfl
theorem cs_L_law_L_load : x_CS M_L_law M_L_load 2 := ⟨(by decide +kernel : plainFor (x_y M_L_load) = true), co_L_load, in_L, ⟨by decide +kernel, by decide +kernel⟩, by decide +kernel, by decide, by decide⟩
set_option maxRecDepth 100000 in
theorem ml_L_49 : Cond.methodLink RL 49 (x_y M_L_load) ∈ x_w := x_in 708 rfl rfl
set_option maxRecDepth 100000 in
theorem st_L_load : Cond.static (x_y M_L_load) ∈ x_w := x_in 709 rfl rfl
theorem cs_L_law_X12_load : x_CS M_L_law M_X12_load 0 := ⟨(by decide +kernel : plainFor (x_y M_X12_load) = true), co_X12_load, in_X12, ⟨by decide +kernel, by decide +kernel⟩, by decide +kernel, by decide, by decide⟩
set_option maxRecDepth 100000 in
theorem ml_L_52 : Cond.methodLink RL 52 (x_y M_X12_load) ∈ x_w := x_in 1376 rfl rfl
set_option maxRecDepth 100000 in
theorem im_X12_load : Cond.instanceMethod (x_y M_X12_load) ∈ x_w := x_in 1377 rfl rfl
set_option maxRecDepth 100000 in
theorem se_X12_load : Cond.selects (x_y M_X12_load).cls (x_y M_X12_load) (x_y M_X12_load) ∈ x_w := x_in 1378 rfl rfl
theorem cs_L_law_X11_place : x_CS M_L_law M_X11_place 0 := ⟨(by decide +kernel : plainFor (x_y M_X11_place) = true), co_X11_place, in_X11, ⟨by decide +kernel, by decide +kernel⟩, by decide +kernel, by decide, by decide⟩
set_option maxRecDepth 100000 in
theorem ml_L_53 : Cond.methodLink RL 53 (x_y M_X11_place) ∈ x_w := x_in 590 rfl rfl
set_option maxRecDepth 100000 in
theorem im_X11_place : Cond.instanceMethod (x_y M_X11_place) ∈ x_w := x_in 591 rfl rfl
set_option maxRecDepth 100000 in
theorem se_X11_place : Cond.selects (x_y M_X11_place).cls (x_y M_X11_place) (x_y M_X11_place) ∈ x_w := x_in 592 rfl rfl
theorem cs_L_law_X12_place : x_CS M_L_law M_X12_place 0 := ⟨(by decide +kernel : plainFor (x_y M_X12_place) = true), co_X12_place, in_X12, ⟨by decide +kernel, by decide +kernel⟩, by decide +kernel, by decide, by decide⟩
set_option maxRecDepth 100000 in
theorem ml_L_56 : Cond.methodLink RL 56 (x_y M_X12_place) ∈ x_w := x_in 1561 rfl rfl
set_option maxRecDepth 100000 in
theorem im_X12_place : Cond.instanceMethod (x_y M_X12_place) ∈ x_w := x_in 1562 rfl rfl
set_option maxRecDepth 100000 in
theorem se_X12_place : Cond.selects (x_y M_X12_place).cls (x_y M_X12_place) (x_y M_X12_place) ∈ x_w := x_in 1563 rfl rfl
theorem cs_L_law_L_run : x_CS M_L_law M_L_run 3 := ⟨(by decide +kernel : plainFor (x_y M_L_run) = true), co_L_run, in_L, ⟨by decide +kernel, by decide +kernel⟩, by decide +kernel, by decide, by decide⟩
set_option maxRecDepth 100000 in
theorem ml_L_57 : Cond.methodLink RL 57 (x_y M_L_run) ∈ x_w := x_in 1061 rfl rfl
set_option maxRecDepth 100000 in
theorem st_L_run : Cond.static (x_y M_L_run) ∈ x_w := x_in 1062 rfl rfl
theorem cs_L_law_X12_run : x_CS M_L_law M_X12_run 1 := ⟨(by decide +kernel : plainFor (x_y M_X12_run) = true), co_X12_run, in_X12, ⟨by decide +kernel, by decide +kernel⟩, by decide +kernel, by decide, by decide⟩
set_option maxRecDepth 100000 in
theorem ml_L_60 : Cond.methodLink RL 60 (x_y M_X12_run) ∈ x_w := x_in 1565 rfl rfl
set_option maxRecDepth 100000 in
theorem im_X12_run : Cond.instanceMethod (x_y M_X12_run) ∈ x_w := x_in 1566 rfl rfl
set_option maxRecDepth 100000 in
theorem se_X12_run : Cond.selects (x_y M_X12_run).cls (x_y M_X12_run) (x_y M_X12_run) ∈ x_w := x_in 1567 rfl rfl
theorem cs_L_law_X11_steps : x_CS M_L_law M_X11_steps 0 := ⟨(by decide +kernel : plainFor (x_y M_X11_steps) = true), co_X11_steps, in_X11, ⟨by decide +kernel, by decide +kernel⟩, by decide +kernel, by decide, by decide⟩
set_option maxRecDepth 100000 in
theorem ml_L_61 : Cond.methodLink RL 61 (x_y M_X11_steps) ∈ x_w := x_in 594 rfl rfl
set_option maxRecDepth 100000 in
theorem im_X11_steps : Cond.instanceMethod (x_y M_X11_steps) ∈ x_w := x_in 595 rfl rfl
set_option maxRecDepth 100000 in
theorem se_X11_steps : Cond.selects (x_y M_X11_steps).cls (x_y M_X11_steps) (x_y M_X11_steps) ∈ x_w := x_in 596 rfl rfl
theorem cs_L_law_X12_steps : x_CS M_L_law M_X12_steps 0 := ⟨(by decide +kernel : plainFor (x_y M_X12_steps) = true), co_X12_steps, in_X12, ⟨by decide +kernel, by decide +kernel⟩, by decide +kernel, by decide, by decide⟩
set_option maxRecDepth 100000 in
theorem ml_L_64 : Cond.methodLink RL 64 (x_y M_X12_steps) ∈ x_w := x_in 1632 rfl rfl
set_option maxRecDepth 100000 in
theorem im_X12_steps : Cond.instanceMethod (x_y M_X12_steps) ∈ x_w := x_in 1633 rfl rfl
set_option maxRecDepth 100000 in
theorem se_X12_steps : Cond.selects (x_y M_X12_steps).cls (x_y M_X12_steps) (x_y M_X12_steps) ∈ x_w := x_in 1634 rfl rfl
theorem cs_L_law_X11_printed : x_CS M_L_law M_X11_printed 0 := ⟨(by decide +kernel : plainFor (x_y M_X11_printed) = true), co_X11_printed, in_X11, ⟨by decide +kernel, by decide +kernel⟩, by decide +kernel, by decide, by decide⟩
set_option maxRecDepth 100000 in
theorem ml_L_65 : Cond.methodLink RL 65 (x_y M_X11_printed) ∈ x_w := x_in 598 rfl rfl
set_option maxRecDepth 100000 in
theorem im_X11_printed : Cond.instanceMethod (x_y M_X11_printed) ∈ x_w := x_in 599 rfl rfl
set_option maxRecDepth 100000 in
theorem se_X11_printed : Cond.selects (x_y M_X11_printed).cls (x_y M_X11_printed) (x_y M_X11_printed) ∈ x_w := x_in 600 rfl rfl
theorem cs_L_law_X12_printed : x_CS M_L_law M_X12_printed 0 := ⟨(by decide +kernel : plainFor (x_y M_X12_printed) = true), co_X12_printed, in_X12, ⟨by decide +kernel, by decide +kernel⟩, by decide +kernel, by decide, by decide⟩
set_option maxRecDepth 100000 in
theorem ml_L_68 : Cond.methodLink RL 68 (x_y M_X12_printed) ∈ x_w := x_in 1636 rfl rfl
set_option maxRecDepth 100000 in
theorem im_X12_printed : Cond.instanceMethod (x_y M_X12_printed) ∈ x_w := x_in 1637 rfl rfl
set_option maxRecDepth 100000 in
theorem se_X12_printed : Cond.selects (x_y M_X12_printed).cls (x_y M_X12_printed) (x_y M_X12_printed) ∈ x_w := x_in 1638 rfl rfl
theorem cs_L_law_L_print : x_CS M_L_law M_L_print 3 := ⟨(by decide +kernel : plainFor (x_y M_L_print) = true), co_L_print, in_L, ⟨by decide +kernel, by decide +kernel⟩, by decide +kernel, by decide, by decide⟩
set_option maxRecDepth 100000 in
theorem ml_L_69 : Cond.methodLink RL 69 (x_y M_L_print) ∈ x_w := x_in 1152 rfl rfl
set_option maxRecDepth 100000 in
theorem st_L_print : Cond.static (x_y M_L_print) ∈ x_w := x_in 1153 rfl rfl
theorem cs_L_law_X12_print : x_CS M_L_law M_X12_print 1 := ⟨(by decide +kernel : plainFor (x_y M_X12_print) = true), co_X12_print, in_X12, ⟨by decide +kernel, by decide +kernel⟩, by decide +kernel, by decide, by decide⟩
set_option maxRecDepth 100000 in
theorem ml_L_71 : Cond.methodLink RL 71 (x_y M_X12_print) ∈ x_w := x_in 1640 rfl rfl
set_option maxRecDepth 100000 in
theorem im_X12_print : Cond.instanceMethod (x_y M_X12_print) ∈ x_w := x_in 1641 rfl rfl
set_option maxRecDepth 100000 in
theorem se_X12_print : Cond.selects (x_y M_X12_print).cls (x_y M_X12_print) (x_y M_X12_print) ∈ x_w := x_in 1642 rfl rfl
theorem cs_L_law_L_word : x_CS M_L_law M_L_word 4 := ⟨(by decide +kernel : plainFor (x_y M_L_word) = true), co_L_word, in_L, ⟨by decide +kernel, by decide +kernel⟩, by decide +kernel, by decide, by decide⟩
set_option maxRecDepth 100000 in
theorem ml_L_72 : Cond.methodLink RL 72 (x_y M_L_word) ∈ x_w := x_in 1175 rfl rfl
set_option maxRecDepth 100000 in
theorem st_L_word : Cond.static (x_y M_L_word) ∈ x_w := x_in 1176 rfl rfl
theorem cs_L_law_X12_word : x_CS M_L_law M_X12_word 2 := ⟨(by decide +kernel : plainFor (x_y M_X12_word) = true), co_X12_word, in_X12, ⟨by decide +kernel, by decide +kernel⟩, by decide +kernel, by decide, by decide⟩
set_option maxRecDepth 100000 in
theorem ml_L_75 : Cond.methodLink RL 75 (x_y M_X12_word) ∈ x_w := x_in 1644 rfl rfl
set_option maxRecDepth 100000 in
theorem im_X12_word : Cond.instanceMethod (x_y M_X12_word) ∈ x_w := x_in 1645 rfl rfl
set_option maxRecDepth 100000 in
theorem se_X12_word : Cond.selects (x_y M_X12_word).cls (x_y M_X12_word) (x_y M_X12_word) ∈ x_w := x_in 1646 rfl rfl
theorem cs_L_law_X11_records : x_CS M_L_law M_X11_records 0 := ⟨(by decide +kernel : plainFor (x_y M_X11_records) = true), co_X11_records, in_X11, ⟨by decide +kernel, by decide +kernel⟩, by decide +kernel, by decide, by decide⟩
set_option maxRecDepth 100000 in
theorem ml_L_76 : Cond.methodLink RL 76 (x_y M_X11_records) ∈ x_w := x_in 602 rfl rfl
set_option maxRecDepth 100000 in
theorem im_X11_records : Cond.instanceMethod (x_y M_X11_records) ∈ x_w := x_in 603 rfl rfl
set_option maxRecDepth 100000 in
theorem se_X11_records : Cond.selects (x_y M_X11_records).cls (x_y M_X11_records) (x_y M_X11_records) ∈ x_w := x_in 604 rfl rfl
theorem cs_L_law_X12_records : x_CS M_L_law M_X12_records 0 := ⟨(by decide +kernel : plainFor (x_y M_X12_records) = true), co_X12_records, in_X12, ⟨by decide +kernel, by decide +kernel⟩, by decide +kernel, by decide, by decide⟩
set_option maxRecDepth 100000 in
theorem ml_L_79 : Cond.methodLink RL 79 (x_y M_X12_records) ∈ x_w := x_in 1648 rfl rfl
set_option maxRecDepth 100000 in
theorem im_X12_records : Cond.instanceMethod (x_y M_X12_records) ∈ x_w := x_in 1649 rfl rfl
set_option maxRecDepth 100000 in
theorem se_X12_records : Cond.selects (x_y M_X12_records).cls (x_y M_X12_records) (x_y M_X12_records) ∈ x_w := x_in 1650 rfl rfl
theorem cs_J0_length_8abf5_J0_coder_7d493 : x_CS M_J0_length_8abf5 M_J0_coder_7d493 0 := ⟨(by decide +kernel : plainFor (x_y M_J0_coder_7d493) = true), co_J0_coder_7d493, in_J0, ⟨by decide +kernel, by decide +kernel⟩, by decide +kernel, by decide, by decide⟩
set_option maxRecDepth 100000 in
theorem ml_J0_335 : Cond.methodLink RJ0 335 (x_y M_J0_coder_7d493) ∈ x_w := x_in 145 rfl rfl
set_option maxRecDepth 100000 in
theorem im_J0_coder_7d493 : Cond.instanceMethod (x_y M_J0_coder_7d493) ∈ x_w := x_in 146 rfl rfl
set_option maxRecDepth 100000 in
theorem se_J0_coder_7d493 : Cond.selects (x_y M_J0_coder_7d493).cls (x_y M_J0_coder_7d493) (x_y M_J0_coder_7d493) ∈ x_w := x_in 147 rfl rfl
theorem cs_J0_charAt_5068e_J0_isLatin1_aae02 : x_CS M_J0_charAt_5068e M_J0_isLatin1_aae02 0 := ⟨(by decide +kernel : plainFor (x_y M_J0_isLatin1_aae02) = true), co_J0_isLatin1_aae02, in_J0, ⟨by decide +kernel, by decide +kernel⟩, by decide +kernel, by decide, by decide⟩
set_option maxRecDepth 100000 in
theorem ml_J0_492 : Cond.methodLink RJ0 492 (x_y M_J0_isLatin1_aae02) ∈ x_w := x_in 155 rfl rfl
set_option maxRecDepth 100000 in
theorem im_J0_isLatin1_aae02 : Cond.instanceMethod (x_y M_J0_isLatin1_aae02) ∈ x_w := x_in 156 rfl rfl
set_option maxRecDepth 100000 in
theorem se_J0_isLatin1_aae02 : Cond.selects (x_y M_J0_isLatin1_aae02).cls (x_y M_J0_isLatin1_aae02) (x_y M_J0_isLatin1_aae02) ∈ x_w := x_in 157 rfl rfl
theorem cs_J0_charAt_5068e_J1_charAt_3b067 : x_CS M_J0_charAt_5068e M_J1_charAt_3b067 2 := ⟨(by decide +kernel : plainFor (x_y M_J1_charAt_3b067) = true), co_J1_charAt_3b067, in_J1, ⟨by decide +kernel, by decide +kernel⟩, by decide +kernel, by decide, by decide⟩
set_option maxRecDepth 100000 in
theorem ml_J0_495 : Cond.methodLink RJ0 495 (x_y M_J1_charAt_3b067) ∈ x_w := x_in 159 rfl rfl
set_option maxRecDepth 100000 in
theorem st_J1_charAt_3b067 : Cond.static (x_y M_J1_charAt_3b067) ∈ x_w := x_in 160 rfl rfl
theorem cs_J0_indexOf_0f7a4_J0_indexOf_7cf53 : x_CS M_J0_indexOf_0f7a4 M_J0_indexOf_7cf53 2 := ⟨(by decide +kernel : plainFor (x_y M_J0_indexOf_7cf53) = true), co_J0_indexOf_7cf53, in_J0, ⟨by decide +kernel, by decide +kernel⟩, by decide +kernel, by decide, by decide⟩
set_option maxRecDepth 100000 in
theorem ml_J0_633 : Cond.methodLink RJ0 633 (x_y M_J0_indexOf_7cf53) ∈ x_w := x_in 765 rfl rfl
set_option maxRecDepth 100000 in
theorem im_J0_indexOf_7cf53 : Cond.instanceMethod (x_y M_J0_indexOf_7cf53) ∈ x_w := x_in 766 rfl rfl
set_option maxRecDepth 100000 in
theorem se_J0_indexOf_7cf53 : Cond.selects (x_y M_J0_indexOf_7cf53).cls (x_y M_J0_indexOf_7cf53) (x_y M_J0_indexOf_7cf53) ∈ x_w := x_in 767 rfl rfl
theorem cs_J0_indexOf_7cf53_J0_isLatin1_aae02 : x_CS M_J0_indexOf_7cf53 M_J0_isLatin1_aae02 0 := ⟨(by decide +kernel : plainFor (x_y M_J0_isLatin1_aae02) = true), co_J0_isLatin1_aae02, in_J0, ⟨by decide +kernel, by decide +kernel⟩, by decide +kernel, by decide, by decide⟩
theorem cs_J0_indexOf_7cf53_J0_length_8abf5 : x_CS M_J0_indexOf_7cf53 M_J0_length_8abf5 0 := ⟨(by decide +kernel : plainFor (x_y M_J0_length_8abf5) = true), co_J0_length_8abf5, in_J0, ⟨by decide +kernel, by decide +kernel⟩, by decide +kernel, by decide, by decide⟩
set_option maxRecDepth 100000 in
theorem ml_J0_505 : Cond.methodLink RJ0 505 (x_y M_J0_length_8abf5) ∈ x_w := x_in 769 rfl rfl
theorem cs_J0_indexOf_7cf53_J1_indexOf_4cfef : x_CS M_J0_indexOf_7cf53 M_J1_indexOf_4cfef 4 := ⟨(by decide +kernel : plainFor (x_y M_J1_indexOf_4cfef) = true), co_J1_indexOf_4cfef, in_J1, ⟨by decide +kernel, by decide +kernel⟩, by decide +kernel, by decide, by decide⟩
set_option maxRecDepth 100000 in
theorem ml_J0_637 : Cond.methodLink RJ0 637 (x_y M_J1_indexOf_4cfef) ∈ x_w := x_in 770 rfl rfl
set_option maxRecDepth 100000 in
theorem st_J1_indexOf_4cfef : Cond.static (x_y M_J1_indexOf_4cfef) ∈ x_w := x_in 771 rfl rfl
theorem cs_J0_checkIndex_df160_J3_checkIndex_8e157 : x_CS M_J0_checkIndex_df160 M_J3_checkIndex_8e157 3 := ⟨(by decide +kernel : plainFor (x_y M_J3_checkIndex_8e157) = true), co_J3_checkIndex_8e157, in_J3, ⟨by decide +kernel, by decide +kernel⟩, by decide +kernel, by decide, by decide⟩
set_option maxRecDepth 100000 in
theorem ml_J0_1059 : Cond.methodLink RJ0 1059 (x_y M_J3_checkIndex_8e157) ∈ x_w := x_in 167 rfl rfl
set_option maxRecDepth 100000 in
theorem st_J3_checkIndex_8e157 : Cond.static (x_y M_J3_checkIndex_8e157) ∈ x_w := x_in 168 rfl rfl
theorem cs_J1_charAt_3b067_J0_checkIndex_df160 : x_CS M_J1_charAt_3b067 M_J0_checkIndex_df160 2 := ⟨(by decide +kernel : plainFor (x_y M_J0_checkIndex_df160) = true), co_J0_checkIndex_df160, in_J0, ⟨by decide +kernel, by decide +kernel⟩, by decide +kernel, by decide, by decide⟩
set_option maxRecDepth 100000 in
theorem ml_J1_9 : Cond.methodLink RJ1 9 (x_y M_J0_checkIndex_df160) ∈ x_w := x_in 162 rfl rfl
set_option maxRecDepth 100000 in
theorem st_J0_checkIndex_df160 : Cond.static (x_y M_J0_checkIndex_df160) ∈ x_w := x_in 163 rfl rfl
theorem cs_J1_indexOf_4cfef_J1_canEncode_9a6ad : x_CS M_J1_indexOf_4cfef M_J1_canEncode_9a6ad 1 := ⟨(by decide +kernel : plainFor (x_y M_J1_canEncode_9a6ad) = true), co_J1_canEncode_9a6ad, in_J1, ⟨by decide +kernel, by decide +kernel⟩, by decide +kernel, by decide, by decide⟩
set_option maxRecDepth 100000 in
theorem ml_J1_88 : Cond.methodLink RJ1 88 (x_y M_J1_canEncode_9a6ad) ∈ x_w := x_in 773 rfl rfl
set_option maxRecDepth 100000 in
theorem st_J1_canEncode_9a6ad : Cond.static (x_y M_J1_canEncode_9a6ad) ∈ x_w := x_in 774 rfl rfl
theorem cs_J1_indexOf_4cfef_J9_max_7cf53 : x_CS M_J1_indexOf_4cfef M_J9_max_7cf53 2 := ⟨(by decide +kernel : plainFor (x_y M_J9_max_7cf53) = true), co_J9_max_7cf53, in_J9, ⟨by decide +kernel, by decide +kernel⟩, by decide +kernel, by decide, by decide⟩
set_option maxRecDepth 100000 in
theorem ml_J1_92 : Cond.methodLink RJ1 92 (x_y M_J9_max_7cf53) ∈ x_w := x_in 776 rfl rfl
theorem cs_J1_indexOf_4cfef_J9_min_7cf53 : x_CS M_J1_indexOf_4cfef M_J9_min_7cf53 2 := ⟨(by decide +kernel : plainFor (x_y M_J9_min_7cf53) = true), co_J9_min_7cf53, in_J9, ⟨by decide +kernel, by decide +kernel⟩, by decide +kernel, by decide, by decide⟩
set_option maxRecDepth 100000 in
theorem ml_J1_38 : Cond.methodLink RJ1 38 (x_y M_J9_min_7cf53) ∈ x_w := x_in 779 rfl rfl
set_option maxRecDepth 100000 in
theorem st_J9_min_7cf53 : Cond.static (x_y M_J9_min_7cf53) ∈ x_w := x_in 780 rfl rfl
theorem cs_J1_indexOf_4cfef_J1_indexOfChar_4cfef : x_CS M_J1_indexOf_4cfef M_J1_indexOfChar_4cfef 4 := ⟨(by decide +kernel : plainFor (x_y M_J1_indexOfChar_4cfef) = true), co_J1_indexOfChar_4cfef, in_J1, ⟨by decide +kernel, by decide +kernel⟩, by decide +kernel, by decide, by decide⟩
set_option maxRecDepth 100000 in
theorem ml_J1_95 : Cond.methodLink RJ1 95 (x_y M_J1_indexOfChar_4cfef) ∈ x_w := x_in 782 rfl rfl
set_option maxRecDepth 100000 in
theorem st_J1_indexOfChar_4cfef : Cond.static (x_y M_J1_indexOfChar_4cfef) ∈ x_w := x_in 783 rfl rfl
theorem cs_J13_numberOfTrailingZeros_95d88_J6_numberOfTrailingZeros_0f7a4 : x_CS M_J13_numberOfTrailingZeros_95d88 M_J6_numberOfTrailingZeros_0f7a4 1 := ⟨(by decide +kernel : plainFor (x_y M_J6_numberOfTrailingZeros_0f7a4) = true), co_J6_numberOfTrailingZeros_0f7a4, in_J6, ⟨by decide +kernel, by decide +kernel⟩, by decide +kernel, by decide, by decide⟩
set_option maxRecDepth 100000 in
theorem ml_J13_311 : Cond.methodLink RJ13 311 (x_y M_J6_numberOfTrailingZeros_0f7a4) ∈ x_w := x_in 1115 rfl rfl
set_option maxRecDepth 100000 in
theorem st_J6_numberOfTrailingZeros_0f7a4 : Cond.static (x_y M_J6_numberOfTrailingZeros_0f7a4) ∈ x_w := x_in 1116 rfl rfl
