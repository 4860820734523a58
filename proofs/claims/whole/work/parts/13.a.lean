set_option maxRecDepth 100000 in
theorem in_X0 : Cond.initialized RX0 ∈ x_w := x_in 114 rfl rfl
set_option maxRecDepth 100000 in
theorem in_X1 : Cond.initialized RX1 ∈ x_w := x_in 112 rfl rfl
set_option maxRecDepth 100000 in
theorem in_X9 : Cond.initialized RX9 ∈ x_w := x_in 100 rfl rfl
set_option maxRecDepth 100000 in
theorem in_X5 : Cond.initialized RX5 ∈ x_w := x_in 107 rfl rfl
set_option maxRecDepth 100000 in
theorem in_X7 : Cond.initialized RX7 ∈ x_w := x_in 111 rfl rfl
set_option maxRecDepth 100000 in
theorem in_X3 : Cond.initialized RX3 ∈ x_w := x_in 105 rfl rfl
set_option maxRecDepth 100000 in
theorem in_X2 : Cond.initialized RX2 ∈ x_w := x_in 113 rfl rfl
set_option maxRecDepth 100000 in
theorem in_X10 : Cond.initialized RX10 ∈ x_w := x_in 106 rfl rfl
set_option maxRecDepth 100000 in
theorem in_J9 : Cond.initialized RJ9 ∈ x_w := x_in 121 rfl rfl
set_option maxRecDepth 100000 in
theorem in_J13 : Cond.initialized RJ13 ∈ x_w := x_in 123 rfl rfl
set_option maxRecDepth 100000 in
theorem in_X8 : Cond.initialized RX8 ∈ x_w := x_in 108 rfl rfl
set_option maxRecDepth 100000 in
theorem in_X4 : Cond.initialized RX4 ∈ x_w := x_in 109 rfl rfl
set_option maxRecDepth 100000 in
theorem in_X6 : Cond.initialized RX6 ∈ x_w := x_in 110 rfl rfl
set_option maxRecDepth 100000 in
theorem in_J0 : Cond.initialized RJ0 ∈ x_w := x_in 101 rfl rfl
set_option maxRecDepth 100000 in
theorem in_X12 : Cond.initialized RX12 ∈ x_w := x_in 115 rfl rfl
set_option maxRecDepth 100000 in
theorem in_X11 : Cond.initialized RX11 ∈ x_w := x_in 99 rfl rfl
set_option maxRecDepth 100000 in
theorem in_L : Cond.initialized RL ∈ x_w := x_in 98 rfl rfl
set_option maxRecDepth 100000 in
theorem in_J1 : Cond.initialized RJ1 ∈ x_w := x_in 102 rfl rfl
set_option maxRecDepth 100000 in
theorem in_J3 : Cond.initialized RJ3 ∈ x_w := x_in 103 rfl rfl
set_option maxRecDepth 100000 in
theorem in_J6 : Cond.initialized RJ6 ∈ x_w := x_in 124 rfl rfl
set_option maxRecDepth 100000 in
theorem co_X0_at : x_code M_X0_at ∈ x_w := x_in 1100 rfl rfl
set_option maxRecDepth 100000 in
theorem co_X1_goesOn : x_code M_X1_goesOn ∈ x_w := x_in 917 rfl rfl
set_option maxRecDepth 100000 in
theorem co_X9_sort : x_code M_X9_sort ∈ x_w := x_in 837 rfl rfl
set_option maxRecDepth 100000 in
theorem co_X1_close : x_code M_X1_close ∈ x_w := x_in 925 rfl rfl
set_option maxRecDepth 100000 in
theorem co_X1_join : x_code M_X1_join ∈ x_w := x_in 942 rfl rfl
set_option maxRecDepth 100000 in
theorem co_X5_addPart : x_code M_X5_addPart ∈ x_w := x_in 933 rfl rfl
set_option maxRecDepth 100000 in
theorem co_X9_number : x_code M_X9_number ∈ x_w := x_in 888 rfl rfl
set_option maxRecDepth 100000 in
theorem co_X9_pass : x_code M_X9_pass ∈ x_w := x_in 849 rfl rfl
set_option maxRecDepth 100000 in
theorem co_X1_named : x_code M_X1_named ∈ x_w := x_in 954 rfl rfl
set_option maxRecDepth 100000 in
theorem co_X7_enter : x_code M_X7_enter ∈ x_w := x_in 981 rfl rfl
set_option maxRecDepth 100000 in
theorem co_X1_push : x_code M_X1_push ∈ x_w := x_in 948 rfl rfl
set_option maxRecDepth 100000 in
theorem co_X1_prefix : x_code M_X1_prefix ∈ x_w := x_in 986 rfl rfl
set_option maxRecDepth 100000 in
theorem co_X1_aggregate : x_code M_X1_aggregate ∈ x_w := x_in 990 rfl rfl
set_option maxRecDepth 100000 in
theorem co_X1_release : x_code M_X1_release ∈ x_w := x_in 929 rfl rfl
set_option maxRecDepth 100000 in
theorem co_X1_rank : x_code M_X1_rank ∈ x_w := x_in 921 rfl rfl
set_option maxRecDepth 100000 in
theorem co_X7_leave : x_code M_X7_leave ∈ x_w := x_in 937 rfl rfl
set_option maxRecDepth 100000 in
theorem co_X9_name : x_code M_X9_name ∈ x_w := x_in 853 rfl rfl
set_option maxRecDepth 100000 in
theorem co_X3_field : x_code M_X3_field ∈ x_w := x_in 878 rfl rfl
set_option maxRecDepth 100000 in
theorem co_X3_kind : x_code M_X3_kind ∈ x_w := x_in 857 rfl rfl
set_option maxRecDepth 100000 in
theorem co_X7_cursor : x_code M_X7_cursor ∈ x_w := x_in 961 rfl rfl
set_option maxRecDepth 100000 in
theorem co_X7_takeKind : x_code M_X7_takeKind ∈ x_w := x_in 900 rfl rfl
set_option maxRecDepth 100000 in
theorem co_X9_take : x_code M_X9_take ∈ x_w := x_in 882 rfl rfl
set_option maxRecDepth 100000 in
theorem co_X7_takeField : x_code M_X7_takeField ∈ x_w := x_in 967 rfl rfl
set_option maxRecDepth 100000 in
theorem co_X7_takeVariable : x_code M_X7_takeVariable ∈ x_w := x_in 972 rfl rfl
set_option maxRecDepth 100000 in
theorem co_X9_passed : x_code M_X9_passed ∈ x_w := x_in 870 rfl rfl
set_option maxRecDepth 100000 in
theorem co_X0_init : x_code M_X0_init ∈ x_w := x_in 509 rfl rfl
set_option maxRecDepth 100000 in
theorem co_X2_spend : x_code M_X2_spend ∈ x_w := x_in 1076 rfl rfl
set_option maxRecDepth 100000 in
theorem co_X2_insert : x_code M_X2_insert ∈ x_w := x_in 1080 rfl rfl
set_option maxRecDepth 100000 in
theorem co_X0_moves : x_code M_X0_moves ∈ x_w := x_in 1126 rfl rfl
set_option maxRecDepth 100000 in
theorem co_X2_value : x_code M_X2_value ∈ x_w := x_in 1084 rfl rfl
set_option maxRecDepth 100000 in
theorem co_X2_act : x_code M_X2_act ∈ x_w := x_in 1131 rfl rfl
set_option maxRecDepth 100000 in
theorem co_X2_found : x_code M_X2_found ∈ x_w := x_in 1092 rfl rfl
set_option maxRecDepth 100000 in
theorem co_X10_free : x_code M_X10_free ∈ x_w := x_in 1135 rfl rfl
set_option maxRecDepth 100000 in
theorem co_X2_set : x_code M_X2_set ∈ x_w := x_in 1139 rfl rfl
set_option maxRecDepth 100000 in
theorem co_X0_begin : x_code M_X0_begin ∈ x_w := x_in 1143 rfl rfl
set_option maxRecDepth 100000 in
theorem co_X2_change : x_code M_X2_change ∈ x_w := x_in 1147 rfl rfl
set_option maxRecDepth 100000 in
theorem co_X2_remove : x_code M_X2_remove ∈ x_w := x_in 1151 rfl rfl
set_option maxRecDepth 100000 in
theorem co_X10_add : x_code M_X10_add ∈ x_w := x_in 1109 rfl rfl
set_option maxRecDepth 100000 in
theorem co_X2_put : x_code M_X2_put ∈ x_w := x_in 1122 rfl rfl
set_option maxRecDepth 100000 in
theorem co_X2_within : x_code M_X2_within ∈ x_w := x_in 1096 rfl rfl
set_option maxRecDepth 100000 in
theorem co_X2_aggregate : x_code M_X2_aggregate ∈ x_w := x_in 1088 rfl rfl
set_option maxRecDepth 100000 in
theorem co_J9_max_7cf53 : x_code M_J9_max_7cf53 ∈ x_w := x_in 778 rfl rfl
set_option maxRecDepth 100000 in
theorem co_J13_bitCount_95d88 : x_code M_J13_bitCount_95d88 ∈ x_w := x_in 612 rfl rfl
set_option maxRecDepth 100000 in
theorem co_X2_joined : x_code M_X2_joined ∈ x_w := x_in 1104 rfl rfl
set_option maxRecDepth 100000 in
theorem co_X8_init : x_code M_X8_init ∈ x_w := x_in 301 rfl rfl
set_option maxRecDepth 100000 in
theorem co_X4_init : x_code M_X4_init ∈ x_w := x_in 351 rfl rfl
set_option maxRecDepth 100000 in
theorem co_X7_init : x_code M_X7_init ∈ x_w := x_in 426 rfl rfl
set_option maxRecDepth 100000 in
theorem co_X1_init : x_code M_X1_init ∈ x_w := x_in 452 rfl rfl
set_option maxRecDepth 100000 in
theorem co_X7_clear : x_code M_X7_clear ∈ x_w := x_in 829 rfl rfl
set_option maxRecDepth 100000 in
theorem co_X5_clear : x_code M_X5_clear ∈ x_w := x_in 833 rfl rfl
set_option maxRecDepth 100000 in
theorem co_X6_kind : x_code M_X6_kind ∈ x_w := x_in 841 rfl rfl
set_option maxRecDepth 100000 in
theorem co_X6_insert : x_code M_X6_insert ∈ x_w := x_in 896 rfl rfl
set_option maxRecDepth 100000 in
theorem co_X6_delete : x_code M_X6_delete ∈ x_w := x_in 999 rfl rfl
set_option maxRecDepth 100000 in
theorem co_X6_set : x_code M_X6_set ∈ x_w := x_in 1007 rfl rfl
set_option maxRecDepth 100000 in
theorem co_X6_let : x_code M_X6_let ∈ x_w := x_in 1011 rfl rfl
set_option maxRecDepth 100000 in
theorem co_X6_output : x_code M_X6_output ∈ x_w := x_in 1016 rfl rfl
set_option maxRecDepth 100000 in
theorem co_X6_each : x_code M_X6_each ∈ x_w := x_in 1020 rfl rfl
set_option maxRecDepth 100000 in
theorem co_X6_conditional : x_code M_X6_conditional ∈ x_w := x_in 1030 rfl rfl
set_option maxRecDepth 100000 in
theorem co_X6_remove : x_code M_X6_remove ∈ x_w := x_in 1034 rfl rfl
set_option maxRecDepth 100000 in
theorem co_X6_closeBlock : x_code M_X6_closeBlock ∈ x_w := x_in 1039 rfl rfl
