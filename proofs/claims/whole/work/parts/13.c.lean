theorem cs_X0_moves_X0_at : x_CS M_X0_moves M_X0_at 1 := ⟨(by decide +kernel : plainFor (x_y M_X0_at) = true), co_X0_at, in_X0, ⟨by decide +kernel, by decide +kernel⟩, by decide +kernel, by decide, by decide⟩
set_option maxRecDepth 100000 in
theorem ml_X0_37 : Cond.methodLink RX0 37 (x_y M_X0_at) ∈ x_w := x_in 1127 rfl rfl
set_option maxRecDepth 100000 in
theorem im_X0_at : Cond.instanceMethod (x_y M_X0_at) ∈ x_w := x_in 1098 rfl rfl
set_option maxRecDepth 100000 in
theorem se_X0_at : Cond.selects (x_y M_X0_at).cls (x_y M_X0_at) (x_y M_X0_at) ∈ x_w := x_in 1099 rfl rfl
theorem cs_X1_read_X1_goesOn : x_CS M_X1_read M_X1_goesOn 0 := ⟨(by decide +kernel : plainFor (x_y M_X1_goesOn) = true), co_X1_goesOn, in_X1, ⟨by decide +kernel, by decide +kernel⟩, by decide +kernel, by decide, by decide⟩
set_option maxRecDepth 100000 in
theorem ml_X1_46 : Cond.methodLink RX1 46 (x_y M_X1_goesOn) ∈ x_w := x_in 914 rfl rfl
set_option maxRecDepth 100000 in
theorem im_X1_goesOn : Cond.instanceMethod (x_y M_X1_goesOn) ∈ x_w := x_in 916 rfl rfl
set_option maxRecDepth 100000 in
theorem se_X1_goesOn : Cond.selects (x_y M_X1_goesOn).cls (x_y M_X1_goesOn) (x_y M_X1_goesOn) ∈ x_w := x_in 11 rfl rfl
theorem cs_X1_read_X9_sort : x_CS M_X1_read M_X9_sort 0 := ⟨(by decide +kernel : plainFor (x_y M_X9_sort) = true), co_X9_sort, in_X9, ⟨by decide +kernel, by decide +kernel⟩, by decide +kernel, by decide, by decide⟩
set_option maxRecDepth 100000 in
theorem ml_X1_50 : Cond.methodLink RX1 50 (x_y M_X9_sort) ∈ x_w := x_in 918 rfl rfl
set_option maxRecDepth 100000 in
theorem im_X9_sort : Cond.instanceMethod (x_y M_X9_sort) ∈ x_w := x_in 835 rfl rfl
set_option maxRecDepth 100000 in
theorem se_X9_sort : Cond.selects (x_y M_X9_sort).cls (x_y M_X9_sort) (x_y M_X9_sort) ∈ x_w := x_in 836 rfl rfl
theorem cs_X1_read_X1_close : x_CS M_X1_read M_X1_close 0 := ⟨(by decide +kernel : plainFor (x_y M_X1_close) = true), co_X1_close, in_X1, ⟨by decide +kernel, by decide +kernel⟩, by decide +kernel, by decide, by decide⟩
set_option maxRecDepth 100000 in
theorem ml_X1_56 : Cond.methodLink RX1 56 (x_y M_X1_close) ∈ x_w := x_in 922 rfl rfl
set_option maxRecDepth 100000 in
theorem im_X1_close : Cond.instanceMethod (x_y M_X1_close) ∈ x_w := x_in 924 rfl rfl
set_option maxRecDepth 100000 in
theorem se_X1_close : Cond.selects (x_y M_X1_close).cls (x_y M_X1_close) (x_y M_X1_close) ∈ x_w := x_in 12 rfl rfl
theorem cs_X1_read_X1_join : x_CS M_X1_read M_X1_join 0 := ⟨(by decide +kernel : plainFor (x_y M_X1_join) = true), co_X1_join, in_X1, ⟨by decide +kernel, by decide +kernel⟩, by decide +kernel, by decide, by decide⟩
set_option maxRecDepth 100000 in
theorem ml_X1_59 : Cond.methodLink RX1 59 (x_y M_X1_join) ∈ x_w := x_in 939 rfl rfl
set_option maxRecDepth 100000 in
theorem im_X1_join : Cond.instanceMethod (x_y M_X1_join) ∈ x_w := x_in 941 rfl rfl
set_option maxRecDepth 100000 in
theorem se_X1_join : Cond.selects (x_y M_X1_join).cls (x_y M_X1_join) (x_y M_X1_join) ∈ x_w := x_in 14 rfl rfl
theorem cs_X1_read_X5_addPart : x_CS M_X1_read M_X5_addPart 1 := ⟨(by decide +kernel : plainFor (x_y M_X5_addPart) = true), co_X5_addPart, in_X5, ⟨by decide +kernel, by decide +kernel⟩, by decide +kernel, by decide, by decide⟩
set_option maxRecDepth 100000 in
theorem ml_X1_62 : Cond.methodLink RX1 62 (x_y M_X5_addPart) ∈ x_w := x_in 930 rfl rfl
set_option maxRecDepth 100000 in
theorem im_X5_addPart : Cond.instanceMethod (x_y M_X5_addPart) ∈ x_w := x_in 931 rfl rfl
set_option maxRecDepth 100000 in
theorem se_X5_addPart : Cond.selects (x_y M_X5_addPart).cls (x_y M_X5_addPart) (x_y M_X5_addPart) ∈ x_w := x_in 932 rfl rfl
theorem cs_X1_read_X9_number : x_CS M_X1_read M_X9_number 0 := ⟨(by decide +kernel : plainFor (x_y M_X9_number) = true), co_X9_number, in_X9, ⟨by decide +kernel, by decide +kernel⟩, by decide +kernel, by decide, by decide⟩
set_option maxRecDepth 100000 in
theorem ml_X1_66 : Cond.methodLink RX1 66 (x_y M_X9_number) ∈ x_w := x_in 950 rfl rfl
set_option maxRecDepth 100000 in
theorem im_X9_number : Cond.instanceMethod (x_y M_X9_number) ∈ x_w := x_in 886 rfl rfl
set_option maxRecDepth 100000 in
theorem se_X9_number : Cond.selects (x_y M_X9_number).cls (x_y M_X9_number) (x_y M_X9_number) ∈ x_w := x_in 887 rfl rfl
theorem cs_X1_read_X9_pass : x_CS M_X1_read M_X9_pass 0 := ⟨(by decide +kernel : plainFor (x_y M_X9_pass) = true), co_X9_pass, in_X9, ⟨by decide +kernel, by decide +kernel⟩, by decide +kernel, by decide, by decide⟩
set_option maxRecDepth 100000 in
theorem ml_X1_73 : Cond.methodLink RX1 73 (x_y M_X9_pass) ∈ x_w := x_in 949 rfl rfl
set_option maxRecDepth 100000 in
theorem im_X9_pass : Cond.instanceMethod (x_y M_X9_pass) ∈ x_w := x_in 847 rfl rfl
set_option maxRecDepth 100000 in
theorem se_X9_pass : Cond.selects (x_y M_X9_pass).cls (x_y M_X9_pass) (x_y M_X9_pass) ∈ x_w := x_in 848 rfl rfl
theorem cs_X1_read_X1_named : x_CS M_X1_read M_X1_named 0 := ⟨(by decide +kernel : plainFor (x_y M_X1_named) = true), co_X1_named, in_X1, ⟨by decide +kernel, by decide +kernel⟩, by decide +kernel, by decide, by decide⟩
set_option maxRecDepth 100000 in
theorem ml_X1_76 : Cond.methodLink RX1 76 (x_y M_X1_named) ∈ x_w := x_in 951 rfl rfl
set_option maxRecDepth 100000 in
theorem im_X1_named : Cond.instanceMethod (x_y M_X1_named) ∈ x_w := x_in 953 rfl rfl
set_option maxRecDepth 100000 in
theorem se_X1_named : Cond.selects (x_y M_X1_named).cls (x_y M_X1_named) (x_y M_X1_named) ∈ x_w := x_in 16 rfl rfl
theorem cs_X1_read_X7_enter : x_CS M_X1_read M_X7_enter 1 := ⟨(by decide +kernel : plainFor (x_y M_X7_enter) = true), co_X7_enter, in_X7, ⟨by decide +kernel, by decide +kernel⟩, by decide +kernel, by decide, by decide⟩
set_option maxRecDepth 100000 in
theorem ml_X1_79 : Cond.methodLink RX1 79 (x_y M_X7_enter) ∈ x_w := x_in 978 rfl rfl
set_option maxRecDepth 100000 in
theorem im_X7_enter : Cond.instanceMethod (x_y M_X7_enter) ∈ x_w := x_in 979 rfl rfl
set_option maxRecDepth 100000 in
theorem se_X7_enter : Cond.selects (x_y M_X7_enter).cls (x_y M_X7_enter) (x_y M_X7_enter) ∈ x_w := x_in 980 rfl rfl
theorem cs_X1_read_X1_push : x_CS M_X1_read M_X1_push 1 := ⟨(by decide +kernel : plainFor (x_y M_X1_push) = true), co_X1_push, in_X1, ⟨by decide +kernel, by decide +kernel⟩, by decide +kernel, by decide, by decide⟩
set_option maxRecDepth 100000 in
theorem ml_X1_85 : Cond.methodLink RX1 85 (x_y M_X1_push) ∈ x_w := x_in 945 rfl rfl
set_option maxRecDepth 100000 in
theorem im_X1_push : Cond.instanceMethod (x_y M_X1_push) ∈ x_w := x_in 947 rfl rfl
set_option maxRecDepth 100000 in
theorem se_X1_push : Cond.selects (x_y M_X1_push).cls (x_y M_X1_push) (x_y M_X1_push) ∈ x_w := x_in 15 rfl rfl
theorem cs_X1_read_X1_prefix : x_CS M_X1_read M_X1_prefix 0 := ⟨(by decide +kernel : plainFor (x_y M_X1_prefix) = true), co_X1_prefix, in_X1, ⟨by decide +kernel, by decide +kernel⟩, by decide +kernel, by decide, by decide⟩
set_option maxRecDepth 100000 in
theorem ml_X1_88 : Cond.methodLink RX1 88 (x_y M_X1_prefix) ∈ x_w := x_in 983 rfl rfl
set_option maxRecDepth 100000 in
theorem im_X1_prefix : Cond.instanceMethod (x_y M_X1_prefix) ∈ x_w := x_in 985 rfl rfl
set_option maxRecDepth 100000 in
theorem se_X1_prefix : Cond.selects (x_y M_X1_prefix).cls (x_y M_X1_prefix) (x_y M_X1_prefix) ∈ x_w := x_in 17 rfl rfl
theorem cs_X1_read_X1_aggregate : x_CS M_X1_read M_X1_aggregate 0 := ⟨(by decide +kernel : plainFor (x_y M_X1_aggregate) = true), co_X1_aggregate, in_X1, ⟨by decide +kernel, by decide +kernel⟩, by decide +kernel, by decide, by decide⟩
set_option maxRecDepth 100000 in
theorem ml_X1_91 : Cond.methodLink RX1 91 (x_y M_X1_aggregate) ∈ x_w := x_in 987 rfl rfl
set_option maxRecDepth 100000 in
theorem im_X1_aggregate : Cond.instanceMethod (x_y M_X1_aggregate) ∈ x_w := x_in 989 rfl rfl
set_option maxRecDepth 100000 in
theorem se_X1_aggregate : Cond.selects (x_y M_X1_aggregate).cls (x_y M_X1_aggregate) (x_y M_X1_aggregate) ∈ x_w := x_in 18 rfl rfl
theorem cs_X1_read_X1_release : x_CS M_X1_read M_X1_release 1 := ⟨(by decide +kernel : plainFor (x_y M_X1_release) = true), co_X1_release, in_X1, ⟨by decide +kernel, by decide +kernel⟩, by decide +kernel, by decide, by decide⟩
set_option maxRecDepth 100000 in
theorem ml_X1_97 : Cond.methodLink RX1 97 (x_y M_X1_release) ∈ x_w := x_in 926 rfl rfl
set_option maxRecDepth 100000 in
theorem im_X1_release : Cond.instanceMethod (x_y M_X1_release) ∈ x_w := x_in 928 rfl rfl
set_option maxRecDepth 100000 in
theorem se_X1_release : Cond.selects (x_y M_X1_release).cls (x_y M_X1_release) (x_y M_X1_release) ∈ x_w := x_in 13 rfl rfl
theorem cs_X1_goesOn_X9_sort : x_CS M_X1_goesOn M_X9_sort 0 := ⟨(by decide +kernel : plainFor (x_y M_X9_sort) = true), co_X9_sort, in_X9, ⟨by decide +kernel, by decide +kernel⟩, by decide +kernel, by decide, by decide⟩
theorem cs_X1_goesOn_X1_rank : x_CS M_X1_goesOn M_X1_rank 1 := ⟨(by decide +kernel : plainFor (x_y M_X1_rank) = true), co_X1_rank, in_X1, ⟨by decide +kernel, by decide +kernel⟩, by decide +kernel, by decide, by decide⟩
set_option maxRecDepth 100000 in
theorem ml_X1_100 : Cond.methodLink RX1 100 (x_y M_X1_rank) ∈ x_w := x_in 919 rfl rfl
set_option maxRecDepth 100000 in
theorem st_X1_rank : Cond.static (x_y M_X1_rank) ∈ x_w := x_in 920 rfl rfl
theorem cs_X1_join_X9_sort : x_CS M_X1_join M_X9_sort 0 := ⟨(by decide +kernel : plainFor (x_y M_X9_sort) = true), co_X9_sort, in_X9, ⟨by decide +kernel, by decide +kernel⟩, by decide +kernel, by decide, by decide⟩
theorem cs_X1_join_X1_rank : x_CS M_X1_join M_X1_rank 1 := ⟨(by decide +kernel : plainFor (x_y M_X1_rank) = true), co_X1_rank, in_X1, ⟨by decide +kernel, by decide +kernel⟩, by decide +kernel, by decide, by decide⟩
theorem cs_X1_join_X1_release : x_CS M_X1_join M_X1_release 1 := ⟨(by decide +kernel : plainFor (x_y M_X1_release) = true), co_X1_release, in_X1, ⟨by decide +kernel, by decide +kernel⟩, by decide +kernel, by decide, by decide⟩
theorem cs_X1_join_X1_push : x_CS M_X1_join M_X1_push 1 := ⟨(by decide +kernel : plainFor (x_y M_X1_push) = true), co_X1_push, in_X1, ⟨by decide +kernel, by decide +kernel⟩, by decide +kernel, by decide, by decide⟩
theorem cs_X1_join_X9_pass : x_CS M_X1_join M_X9_pass 0 := ⟨(by decide +kernel : plainFor (x_y M_X9_pass) = true), co_X9_pass, in_X9, ⟨by decide +kernel, by decide +kernel⟩, by decide +kernel, by decide, by decide⟩
theorem cs_X1_close_X1_release : x_CS M_X1_close M_X1_release 1 := ⟨(by decide +kernel : plainFor (x_y M_X1_release) = true), co_X1_release, in_X1, ⟨by decide +kernel, by decide +kernel⟩, by decide +kernel, by decide, by decide⟩
theorem cs_X1_close_X5_addPart : x_CS M_X1_close M_X5_addPart 1 := ⟨(by decide +kernel : plainFor (x_y M_X5_addPart) = true), co_X5_addPart, in_X5, ⟨by decide +kernel, by decide +kernel⟩, by decide +kernel, by decide, by decide⟩
theorem cs_X1_close_X7_leave : x_CS M_X1_close M_X7_leave 1 := ⟨(by decide +kernel : plainFor (x_y M_X7_leave) = true), co_X7_leave, in_X7, ⟨by decide +kernel, by decide +kernel⟩, by decide +kernel, by decide, by decide⟩
set_option maxRecDepth 100000 in
theorem ml_X1_114 : Cond.methodLink RX1 114 (x_y M_X7_leave) ∈ x_w := x_in 934 rfl rfl
set_option maxRecDepth 100000 in
theorem im_X7_leave : Cond.instanceMethod (x_y M_X7_leave) ∈ x_w := x_in 935 rfl rfl
set_option maxRecDepth 100000 in
theorem se_X7_leave : Cond.selects (x_y M_X7_leave).cls (x_y M_X7_leave) (x_y M_X7_leave) ∈ x_w := x_in 936 rfl rfl
theorem cs_X1_prefix_X9_sort : x_CS M_X1_prefix M_X9_sort 0 := ⟨(by decide +kernel : plainFor (x_y M_X9_sort) = true), co_X9_sort, in_X9, ⟨by decide +kernel, by decide +kernel⟩, by decide +kernel, by decide, by decide⟩
theorem cs_X1_prefix_X1_rank : x_CS M_X1_prefix M_X1_rank 1 := ⟨(by decide +kernel : plainFor (x_y M_X1_rank) = true), co_X1_rank, in_X1, ⟨by decide +kernel, by decide +kernel⟩, by decide +kernel, by decide, by decide⟩
theorem cs_X1_prefix_X1_push : x_CS M_X1_prefix M_X1_push 1 := ⟨(by decide +kernel : plainFor (x_y M_X1_push) = true), co_X1_push, in_X1, ⟨by decide +kernel, by decide +kernel⟩, by decide +kernel, by decide, by decide⟩
theorem cs_X1_prefix_X9_pass : x_CS M_X1_prefix M_X9_pass 0 := ⟨(by decide +kernel : plainFor (x_y M_X9_pass) = true), co_X9_pass, in_X9, ⟨by decide +kernel, by decide +kernel⟩, by decide +kernel, by decide, by decide⟩
theorem cs_X1_named_X9_name : x_CS M_X1_named M_X9_name 0 := ⟨(by decide +kernel : plainFor (x_y M_X9_name) = true), co_X9_name, in_X9, ⟨by decide +kernel, by decide +kernel⟩, by decide +kernel, by decide, by decide⟩
set_option maxRecDepth 100000 in
theorem ml_X1_117 : Cond.methodLink RX1 117 (x_y M_X9_name) ∈ x_w := x_in 955 rfl rfl
set_option maxRecDepth 100000 in
theorem im_X9_name : Cond.instanceMethod (x_y M_X9_name) ∈ x_w := x_in 851 rfl rfl
set_option maxRecDepth 100000 in
theorem se_X9_name : Cond.selects (x_y M_X9_name).cls (x_y M_X9_name) (x_y M_X9_name) ∈ x_w := x_in 852 rfl rfl
theorem cs_X1_named_X3_field : x_CS M_X1_named M_X3_field 2 := ⟨(by decide +kernel : plainFor (x_y M_X3_field) = true), co_X3_field, in_X3, ⟨by decide +kernel, by decide +kernel⟩, by decide +kernel, by decide, by decide⟩
set_option maxRecDepth 100000 in
theorem ml_X1_121 : Cond.methodLink RX1 121 (x_y M_X3_field) ∈ x_w := x_in 956 rfl rfl
set_option maxRecDepth 100000 in
theorem im_X3_field : Cond.instanceMethod (x_y M_X3_field) ∈ x_w := x_in 876 rfl rfl
set_option maxRecDepth 100000 in
theorem se_X3_field : Cond.selects (x_y M_X3_field).cls (x_y M_X3_field) (x_y M_X3_field) ∈ x_w := x_in 877 rfl rfl
theorem cs_X1_named_X5_addPart : x_CS M_X1_named M_X5_addPart 1 := ⟨(by decide +kernel : plainFor (x_y M_X5_addPart) = true), co_X5_addPart, in_X5, ⟨by decide +kernel, by decide +kernel⟩, by decide +kernel, by decide, by decide⟩
theorem cs_X1_named_X9_pass : x_CS M_X1_named M_X9_pass 0 := ⟨(by decide +kernel : plainFor (x_y M_X9_pass) = true), co_X9_pass, in_X9, ⟨by decide +kernel, by decide +kernel⟩, by decide +kernel, by decide, by decide⟩
theorem cs_X1_named_X3_kind : x_CS M_X1_named M_X3_kind 1 := ⟨(by decide +kernel : plainFor (x_y M_X3_kind) = true), co_X3_kind, in_X3, ⟨by decide +kernel, by decide +kernel⟩, by decide +kernel, by decide, by decide⟩
set_option maxRecDepth 100000 in
theorem ml_X1_129 : Cond.methodLink RX1 129 (x_y M_X3_kind) ∈ x_w := x_in 957 rfl rfl
set_option maxRecDepth 100000 in
theorem im_X3_kind : Cond.instanceMethod (x_y M_X3_kind) ∈ x_w := x_in 855 rfl rfl
set_option maxRecDepth 100000 in
theorem se_X3_kind : Cond.selects (x_y M_X3_kind).cls (x_y M_X3_kind) (x_y M_X3_kind) ∈ x_w := x_in 856 rfl rfl
theorem cs_X1_named_X7_cursor : x_CS M_X1_named M_X7_cursor 0 := ⟨(by decide +kernel : plainFor (x_y M_X7_cursor) = true), co_X7_cursor, in_X7, ⟨by decide +kernel, by decide +kernel⟩, by decide +kernel, by decide, by decide⟩
set_option maxRecDepth 100000 in
theorem ml_X1_133 : Cond.methodLink RX1 133 (x_y M_X7_cursor) ∈ x_w := x_in 958 rfl rfl
set_option maxRecDepth 100000 in
theorem im_X7_cursor : Cond.instanceMethod (x_y M_X7_cursor) ∈ x_w := x_in 959 rfl rfl
set_option maxRecDepth 100000 in
theorem se_X7_cursor : Cond.selects (x_y M_X7_cursor).cls (x_y M_X7_cursor) (x_y M_X7_cursor) ∈ x_w := x_in 960 rfl rfl
theorem cs_X1_named_X7_takeKind : x_CS M_X1_named M_X7_takeKind 0 := ⟨(by decide +kernel : plainFor (x_y M_X7_takeKind) = true), co_X7_takeKind, in_X7, ⟨by decide +kernel, by decide +kernel⟩, by decide +kernel, by decide, by decide⟩
set_option maxRecDepth 100000 in
theorem ml_X1_138 : Cond.methodLink RX1 138 (x_y M_X7_takeKind) ∈ x_w := x_in 962 rfl rfl
set_option maxRecDepth 100000 in
theorem im_X7_takeKind : Cond.instanceMethod (x_y M_X7_takeKind) ∈ x_w := x_in 898 rfl rfl
set_option maxRecDepth 100000 in
theorem se_X7_takeKind : Cond.selects (x_y M_X7_takeKind).cls (x_y M_X7_takeKind) (x_y M_X7_takeKind) ∈ x_w := x_in 899 rfl rfl
theorem cs_X1_named_X9_take : x_CS M_X1_named M_X9_take 1 := ⟨(by decide +kernel : plainFor (x_y M_X9_take) = true), co_X9_take, in_X9, ⟨by decide +kernel, by decide +kernel⟩, by decide +kernel, by decide, by decide⟩
set_option maxRecDepth 100000 in
theorem ml_X1_141 : Cond.methodLink RX1 141 (x_y M_X9_take) ∈ x_w := x_in 963 rfl rfl
set_option maxRecDepth 100000 in
theorem im_X9_take : Cond.instanceMethod (x_y M_X9_take) ∈ x_w := x_in 880 rfl rfl
set_option maxRecDepth 100000 in
theorem se_X9_take : Cond.selects (x_y M_X9_take).cls (x_y M_X9_take) (x_y M_X9_take) ∈ x_w := x_in 881 rfl rfl
theorem cs_X1_named_X7_takeField : x_CS M_X1_named M_X7_takeField 1 := ⟨(by decide +kernel : plainFor (x_y M_X7_takeField) = true), co_X7_takeField, in_X7, ⟨by decide +kernel, by decide +kernel⟩, by decide +kernel, by decide, by decide⟩
set_option maxRecDepth 100000 in
theorem ml_X1_144 : Cond.methodLink RX1 144 (x_y M_X7_takeField) ∈ x_w := x_in 964 rfl rfl
set_option maxRecDepth 100000 in
theorem im_X7_takeField : Cond.instanceMethod (x_y M_X7_takeField) ∈ x_w := x_in 965 rfl rfl
set_option maxRecDepth 100000 in
theorem se_X7_takeField : Cond.selects (x_y M_X7_takeField).cls (x_y M_X7_takeField) (x_y M_X7_takeField) ∈ x_w := x_in 966 rfl rfl
theorem cs_X1_named_X7_takeVariable : x_CS M_X1_named M_X7_takeVariable 0 := ⟨(by decide +kernel : plainFor (x_y M_X7_takeVariable) = true), co_X7_takeVariable, in_X7, ⟨by decide +kernel, by decide +kernel⟩, by decide +kernel, by decide, by decide⟩
set_option maxRecDepth 100000 in
theorem ml_X1_147 : Cond.methodLink RX1 147 (x_y M_X7_takeVariable) ∈ x_w := x_in 969 rfl rfl
set_option maxRecDepth 100000 in
theorem im_X7_takeVariable : Cond.instanceMethod (x_y M_X7_takeVariable) ∈ x_w := x_in 970 rfl rfl
set_option maxRecDepth 100000 in
theorem se_X7_takeVariable : Cond.selects (x_y M_X7_takeVariable).cls (x_y M_X7_takeVariable) (x_y M_X7_takeVariable) ∈ x_w := x_in 971 rfl rfl
theorem cs_X1_aggregate_X9_sort : x_CS M_X1_aggregate M_X9_sort 0 := ⟨(by decide +kernel : plainFor (x_y M_X9_sort) = true), co_X9_sort, in_X9, ⟨by decide +kernel, by decide +kernel⟩, by decide +kernel, by decide, by decide⟩
theorem cs_X1_aggregate_X9_pass : x_CS M_X1_aggregate M_X9_pass 0 := ⟨(by decide +kernel : plainFor (x_y M_X9_pass) = true), co_X9_pass, in_X9, ⟨by decide +kernel, by decide +kernel⟩, by decide +kernel, by decide, by decide⟩
theorem cs_X1_aggregate_X7_enter : x_CS M_X1_aggregate M_X7_enter 1 := ⟨(by decide +kernel : plainFor (x_y M_X7_enter) = true), co_X7_enter, in_X7, ⟨by decide +kernel, by decide +kernel⟩, by decide +kernel, by decide, by decide⟩
theorem cs_X1_aggregate_X5_addPart : x_CS M_X1_aggregate M_X5_addPart 1 := ⟨(by decide +kernel : plainFor (x_y M_X5_addPart) = true), co_X5_addPart, in_X5, ⟨by decide +kernel, by decide +kernel⟩, by decide +kernel, by decide, by decide⟩
theorem cs_X1_aggregate_X7_takeKind : x_CS M_X1_aggregate M_X7_takeKind 0 := ⟨(by decide +kernel : plainFor (x_y M_X7_takeKind) = true), co_X7_takeKind, in_X7, ⟨by decide +kernel, by decide +kernel⟩, by decide +kernel, by decide, by decide⟩
theorem cs_X1_aggregate_X9_take : x_CS M_X1_aggregate M_X9_take 1 := ⟨(by decide +kernel : plainFor (x_y M_X9_take) = true), co_X9_take, in_X9, ⟨by decide +kernel, by decide +kernel⟩, by decide +kernel, by decide, by decide⟩
theorem cs_X1_aggregate_X7_takeField : x_CS M_X1_aggregate M_X7_takeField 1 := ⟨(by decide +kernel : plainFor (x_y M_X7_takeField) = true), co_X7_takeField, in_X7, ⟨by decide +kernel, by decide +kernel⟩, by decide +kernel, by decide, by decide⟩
theorem cs_X1_aggregate_X9_passed : x_CS M_X1_aggregate M_X9_passed 1 := ⟨(by decide +kernel : plainFor (x_y M_X9_passed) = true), co_X9_passed, in_X9, ⟨by decide +kernel, by decide +kernel⟩, by decide +kernel, by decide, by decide⟩
set_option maxRecDepth 100000 in
theorem ml_X1_152 : Cond.methodLink RX1 152 (x_y M_X9_passed) ∈ x_w := x_in 991 rfl rfl
set_option maxRecDepth 100000 in
theorem im_X9_passed : Cond.instanceMethod (x_y M_X9_passed) ∈ x_w := x_in 868 rfl rfl
set_option maxRecDepth 100000 in
theorem se_X9_passed : Cond.selects (x_y M_X9_passed).cls (x_y M_X9_passed) (x_y M_X9_passed) ∈ x_w := x_in 869 rfl rfl
theorem cs_X1_aggregate_X1_push : x_CS M_X1_aggregate M_X1_push 1 := ⟨(by decide +kernel : plainFor (x_y M_X1_push) = true), co_X1_push, in_X1, ⟨by decide +kernel, by decide +kernel⟩, by decide +kernel, by decide, by decide⟩
theorem cs_X1_aggregate_X7_leave : x_CS M_X1_aggregate M_X7_leave 1 := ⟨(by decide +kernel : plainFor (x_y M_X7_leave) = true), co_X7_leave, in_X7, ⟨by decide +kernel, by decide +kernel⟩, by decide +kernel, by decide, by decide⟩
theorem cs_X1_release_X1_rank : x_CS M_X1_release M_X1_rank 1 := ⟨(by decide +kernel : plainFor (x_y M_X1_rank) = true), co_X1_rank, in_X1, ⟨by decide +kernel, by decide +kernel⟩, by decide +kernel, by decide, by decide⟩
theorem cs_X1_release_X5_addPart : x_CS M_X1_release M_X5_addPart 1 := ⟨(by decide +kernel : plainFor (x_y M_X5_addPart) = true), co_X5_addPart, in_X5, ⟨by decide +kernel, by decide +kernel⟩, by decide +kernel, by decide, by decide⟩
theorem cs_X2_init_X0_init : x_CS M_X2_init M_X0_init 1 := ⟨(by decide +kernel : plainFor (x_y M_X0_init) = true), co_X0_init, in_X0, ⟨by decide +kernel, by decide +kernel⟩, by decide +kernel, by decide, by decide⟩
set_option maxRecDepth 100000 in
theorem ml_X2_40 : Cond.methodLink RX2 40 (x_y M_X0_init) ∈ x_w := x_in 507 rfl rfl
set_option maxRecDepth 100000 in
theorem im_X0_init : Cond.instanceMethod (x_y M_X0_init) ∈ x_w := x_in 508 rfl rfl
theorem cs_X2_goThrough_X2_spend : x_CS M_X2_goThrough M_X2_spend 0 := ⟨(by decide +kernel : plainFor (x_y M_X2_spend) = true), co_X2_spend, in_X2, ⟨by decide +kernel, by decide +kernel⟩, by decide +kernel, by decide, by decide⟩
set_option maxRecDepth 100000 in
theorem ml_X2_69 : Cond.methodLink RX2 69 (x_y M_X2_spend) ∈ x_w := x_in 1073 rfl rfl
set_option maxRecDepth 100000 in
theorem im_X2_spend : Cond.instanceMethod (x_y M_X2_spend) ∈ x_w := x_in 1075 rfl rfl
set_option maxRecDepth 100000 in
theorem se_X2_spend : Cond.selects (x_y M_X2_spend).cls (x_y M_X2_spend) (x_y M_X2_spend) ∈ x_w := x_in 30 rfl rfl
theorem cs_X2_goThrough_X2_insert : x_CS M_X2_goThrough M_X2_insert 1 := ⟨(by decide +kernel : plainFor (x_y M_X2_insert) = true), co_X2_insert, in_X2, ⟨by decide +kernel, by decide +kernel⟩, by decide +kernel, by decide, by decide⟩
set_option maxRecDepth 100000 in
theorem ml_X2_73 : Cond.methodLink RX2 73 (x_y M_X2_insert) ∈ x_w := x_in 1077 rfl rfl
set_option maxRecDepth 100000 in
theorem im_X2_insert : Cond.instanceMethod (x_y M_X2_insert) ∈ x_w := x_in 1079 rfl rfl
set_option maxRecDepth 100000 in
theorem se_X2_insert : Cond.selects (x_y M_X2_insert).cls (x_y M_X2_insert) (x_y M_X2_insert) ∈ x_w := x_in 31 rfl rfl
theorem cs_X2_goThrough_X0_moves : x_CS M_X2_goThrough M_X0_moves 1 := ⟨(by decide +kernel : plainFor (x_y M_X0_moves) = true), co_X0_moves, in_X0, ⟨by decide +kernel, by decide +kernel⟩, by decide +kernel, by decide, by decide⟩
set_option maxRecDepth 100000 in
theorem ml_X2_80 : Cond.methodLink RX2 80 (x_y M_X0_moves) ∈ x_w := x_in 1123 rfl rfl
set_option maxRecDepth 100000 in
theorem im_X0_moves : Cond.instanceMethod (x_y M_X0_moves) ∈ x_w := x_in 1124 rfl rfl
set_option maxRecDepth 100000 in
theorem se_X0_moves : Cond.selects (x_y M_X0_moves).cls (x_y M_X0_moves) (x_y M_X0_moves) ∈ x_w := x_in 1125 rfl rfl
theorem cs_X2_goThrough_X2_value : x_CS M_X2_goThrough M_X2_value 1 := ⟨(by decide +kernel : plainFor (x_y M_X2_value) = true), co_X2_value, in_X2, ⟨by decide +kernel, by decide +kernel⟩, by decide +kernel, by decide, by decide⟩
set_option maxRecDepth 100000 in
theorem ml_X2_90 : Cond.methodLink RX2 90 (x_y M_X2_value) ∈ x_w := x_in 1081 rfl rfl
set_option maxRecDepth 100000 in
theorem im_X2_value : Cond.instanceMethod (x_y M_X2_value) ∈ x_w := x_in 1083 rfl rfl
set_option maxRecDepth 100000 in
theorem se_X2_value : Cond.selects (x_y M_X2_value).cls (x_y M_X2_value) (x_y M_X2_value) ∈ x_w := x_in 32 rfl rfl
theorem cs_X2_goThrough_X2_act : x_CS M_X2_goThrough M_X2_act 1 := ⟨(by decide +kernel : plainFor (x_y M_X2_act) = true), co_X2_act, in_X2, ⟨by decide +kernel, by decide +kernel⟩, by decide +kernel, by decide, by decide⟩
set_option maxRecDepth 100000 in
theorem ml_X2_93 : Cond.methodLink RX2 93 (x_y M_X2_act) ∈ x_w := x_in 1128 rfl rfl
set_option maxRecDepth 100000 in
theorem im_X2_act : Cond.instanceMethod (x_y M_X2_act) ∈ x_w := x_in 1130 rfl rfl
set_option maxRecDepth 100000 in
theorem se_X2_act : Cond.selects (x_y M_X2_act).cls (x_y M_X2_act) (x_y M_X2_act) ∈ x_w := x_in 37 rfl rfl
theorem cs_X2_act_X2_found : x_CS M_X2_act M_X2_found 2 := ⟨(by decide +kernel : plainFor (x_y M_X2_found) = true), co_X2_found, in_X2, ⟨by decide +kernel, by decide +kernel⟩, by decide +kernel, by decide, by decide⟩
set_option maxRecDepth 100000 in
theorem ml_X2_102 : Cond.methodLink RX2 102 (x_y M_X2_found) ∈ x_w := x_in 1089 rfl rfl
set_option maxRecDepth 100000 in
theorem im_X2_found : Cond.instanceMethod (x_y M_X2_found) ∈ x_w := x_in 1091 rfl rfl
set_option maxRecDepth 100000 in
theorem se_X2_found : Cond.selects (x_y M_X2_found).cls (x_y M_X2_found) (x_y M_X2_found) ∈ x_w := x_in 34 rfl rfl
theorem cs_X2_act_X10_free : x_CS M_X2_act M_X10_free 2 := ⟨(by decide +kernel : plainFor (x_y M_X10_free) = true), co_X10_free, in_X10, ⟨by decide +kernel, by decide +kernel⟩, by decide +kernel, by decide, by decide⟩
set_option maxRecDepth 100000 in
theorem ml_X2_106 : Cond.methodLink RX2 106 (x_y M_X10_free) ∈ x_w := x_in 1132 rfl rfl
set_option maxRecDepth 100000 in
theorem im_X10_free : Cond.instanceMethod (x_y M_X10_free) ∈ x_w := x_in 1133 rfl rfl
set_option maxRecDepth 100000 in
theorem se_X10_free : Cond.selects (x_y M_X10_free).cls (x_y M_X10_free) (x_y M_X10_free) ∈ x_w := x_in 1134 rfl rfl
theorem cs_X2_act_X2_set : x_CS M_X2_act M_X2_set 1 := ⟨(by decide +kernel : plainFor (x_y M_X2_set) = true), co_X2_set, in_X2, ⟨by decide +kernel, by decide +kernel⟩, by decide +kernel, by decide, by decide⟩
set_option maxRecDepth 100000 in
theorem ml_X2_112 : Cond.methodLink RX2 112 (x_y M_X2_set) ∈ x_w := x_in 1136 rfl rfl
set_option maxRecDepth 100000 in
theorem im_X2_set : Cond.instanceMethod (x_y M_X2_set) ∈ x_w := x_in 1138 rfl rfl
set_option maxRecDepth 100000 in
theorem se_X2_set : Cond.selects (x_y M_X2_set).cls (x_y M_X2_set) (x_y M_X2_set) ∈ x_w := x_in 38 rfl rfl
theorem cs_X2_act_X2_value : x_CS M_X2_act M_X2_value 1 := ⟨(by decide +kernel : plainFor (x_y M_X2_value) = true), co_X2_value, in_X2, ⟨by decide +kernel, by decide +kernel⟩, by decide +kernel, by decide, by decide⟩
theorem cs_X2_act_X0_begin : x_CS M_X2_act M_X0_begin 3 := ⟨(by decide +kernel : plainFor (x_y M_X0_begin) = true), co_X0_begin, in_X0, ⟨by decide +kernel, by decide +kernel⟩, by decide +kernel, by decide, by decide⟩
set_option maxRecDepth 100000 in
theorem ml_X2_124 : Cond.methodLink RX2 124 (x_y M_X0_begin) ∈ x_w := x_in 1140 rfl rfl
set_option maxRecDepth 100000 in
theorem im_X0_begin : Cond.instanceMethod (x_y M_X0_begin) ∈ x_w := x_in 1141 rfl rfl
set_option maxRecDepth 100000 in
theorem se_X0_begin : Cond.selects (x_y M_X0_begin).cls (x_y M_X0_begin) (x_y M_X0_begin) ∈ x_w := x_in 1142 rfl rfl
theorem cs_X2_act_X2_change : x_CS M_X2_act M_X2_change 2 := ⟨(by decide +kernel : plainFor (x_y M_X2_change) = true), co_X2_change, in_X2, ⟨by decide +kernel, by decide +kernel⟩, by decide +kernel, by decide, by decide⟩
set_option maxRecDepth 100000 in
theorem ml_X2_128 : Cond.methodLink RX2 128 (x_y M_X2_change) ∈ x_w := x_in 1144 rfl rfl
set_option maxRecDepth 100000 in
theorem im_X2_change : Cond.instanceMethod (x_y M_X2_change) ∈ x_w := x_in 1146 rfl rfl
set_option maxRecDepth 100000 in
theorem se_X2_change : Cond.selects (x_y M_X2_change).cls (x_y M_X2_change) (x_y M_X2_change) ∈ x_w := x_in 39 rfl rfl
theorem cs_X2_act_X2_remove : x_CS M_X2_act M_X2_remove 1 := ⟨(by decide +kernel : plainFor (x_y M_X2_remove) = true), co_X2_remove, in_X2, ⟨by decide +kernel, by decide +kernel⟩, by decide +kernel, by decide, by decide⟩
set_option maxRecDepth 100000 in
theorem ml_X2_132 : Cond.methodLink RX2 132 (x_y M_X2_remove) ∈ x_w := x_in 1148 rfl rfl
set_option maxRecDepth 100000 in
theorem im_X2_remove : Cond.instanceMethod (x_y M_X2_remove) ∈ x_w := x_in 1150 rfl rfl
set_option maxRecDepth 100000 in
theorem se_X2_remove : Cond.selects (x_y M_X2_remove).cls (x_y M_X2_remove) (x_y M_X2_remove) ∈ x_w := x_in 40 rfl rfl
theorem cs_X2_insert_X2_value : x_CS M_X2_insert M_X2_value 1 := ⟨(by decide +kernel : plainFor (x_y M_X2_value) = true), co_X2_value, in_X2, ⟨by decide +kernel, by decide +kernel⟩, by decide +kernel, by decide, by decide⟩
theorem cs_X2_insert_X10_add : x_CS M_X2_insert M_X10_add 1 := ⟨(by decide +kernel : plainFor (x_y M_X10_add) = true), co_X10_add, in_X10, ⟨by decide +kernel, by decide +kernel⟩, by decide +kernel, by decide, by decide⟩
set_option maxRecDepth 100000 in
theorem ml_X2_144 : Cond.methodLink RX2 144 (x_y M_X10_add) ∈ x_w := x_in 1106 rfl rfl
set_option maxRecDepth 100000 in
theorem im_X10_add : Cond.instanceMethod (x_y M_X10_add) ∈ x_w := x_in 1107 rfl rfl
set_option maxRecDepth 100000 in
theorem se_X10_add : Cond.selects (x_y M_X10_add).cls (x_y M_X10_add) (x_y M_X10_add) ∈ x_w := x_in 1108 rfl rfl
theorem cs_X2_insert_X2_put : x_CS M_X2_insert M_X2_put 3 := ⟨(by decide +kernel : plainFor (x_y M_X2_put) = true), co_X2_put, in_X2, ⟨by decide +kernel, by decide +kernel⟩, by decide +kernel, by decide, by decide⟩
set_option maxRecDepth 100000 in
theorem ml_X2_147 : Cond.methodLink RX2 147 (x_y M_X2_put) ∈ x_w := x_in 1119 rfl rfl
set_option maxRecDepth 100000 in
theorem im_X2_put : Cond.instanceMethod (x_y M_X2_put) ∈ x_w := x_in 1121 rfl rfl
set_option maxRecDepth 100000 in
theorem se_X2_put : Cond.selects (x_y M_X2_put).cls (x_y M_X2_put) (x_y M_X2_put) ∈ x_w := x_in 36 rfl rfl
theorem cs_X2_set_X2_found : x_CS M_X2_set M_X2_found 2 := ⟨(by decide +kernel : plainFor (x_y M_X2_found) = true), co_X2_found, in_X2, ⟨by decide +kernel, by decide +kernel⟩, by decide +kernel, by decide, by decide⟩
theorem cs_X2_set_X2_within : x_CS M_X2_set M_X2_within 2 := ⟨(by decide +kernel : plainFor (x_y M_X2_within) = true), co_X2_within, in_X2, ⟨by decide +kernel, by decide +kernel⟩, by decide +kernel, by decide, by decide⟩
set_option maxRecDepth 100000 in
theorem ml_X2_151 : Cond.methodLink RX2 151 (x_y M_X2_within) ∈ x_w := x_in 1093 rfl rfl
set_option maxRecDepth 100000 in
theorem im_X2_within : Cond.instanceMethod (x_y M_X2_within) ∈ x_w := x_in 1095 rfl rfl
set_option maxRecDepth 100000 in
theorem se_X2_within : Cond.selects (x_y M_X2_within).cls (x_y M_X2_within) (x_y M_X2_within) ∈ x_w := x_in 35 rfl rfl
theorem cs_X2_set_X2_put : x_CS M_X2_set M_X2_put 3 := ⟨(by decide +kernel : plainFor (x_y M_X2_put) = true), co_X2_put, in_X2, ⟨by decide +kernel, by decide +kernel⟩, by decide +kernel, by decide, by decide⟩
theorem cs_X2_change_X0_at : x_CS M_X2_change M_X0_at 1 := ⟨(by decide +kernel : plainFor (x_y M_X0_at) = true), co_X0_at, in_X0, ⟨by decide +kernel, by decide +kernel⟩, by decide +kernel, by decide, by decide⟩
set_option maxRecDepth 100000 in
theorem ml_X2_166 : Cond.methodLink RX2 166 (x_y M_X0_at) ∈ x_w := x_in 1097 rfl rfl
theorem cs_X2_remove_X0_at : x_CS M_X2_remove M_X0_at 1 := ⟨(by decide +kernel : plainFor (x_y M_X0_at) = true), co_X0_at, in_X0, ⟨by decide +kernel, by decide +kernel⟩, by decide +kernel, by decide, by decide⟩
theorem cs_X2_remove_X10_free : x_CS M_X2_remove M_X10_free 2 := ⟨(by decide +kernel : plainFor (x_y M_X10_free) = true), co_X10_free, in_X10, ⟨by decide +kernel, by decide +kernel⟩, by decide +kernel, by decide, by decide⟩
theorem cs_X2_found_X2_within : x_CS M_X2_found M_X2_within 2 := ⟨(by decide +kernel : plainFor (x_y M_X2_within) = true), co_X2_within, in_X2, ⟨by decide +kernel, by decide +kernel⟩, by decide +kernel, by decide, by decide⟩
theorem cs_X2_value_X2_aggregate : x_CS M_X2_value M_X2_aggregate 1 := ⟨(by decide +kernel : plainFor (x_y M_X2_aggregate) = true), co_X2_aggregate, in_X2, ⟨by decide +kernel, by decide +kernel⟩, by decide +kernel, by decide, by decide⟩
set_option maxRecDepth 100000 in
theorem ml_X2_183 : Cond.methodLink RX2 183 (x_y M_X2_aggregate) ∈ x_w := x_in 1085 rfl rfl
set_option maxRecDepth 100000 in
theorem im_X2_aggregate : Cond.instanceMethod (x_y M_X2_aggregate) ∈ x_w := x_in 1087 rfl rfl
set_option maxRecDepth 100000 in
theorem se_X2_aggregate : Cond.selects (x_y M_X2_aggregate).cls (x_y M_X2_aggregate) (x_y M_X2_aggregate) ∈ x_w := x_in 33 rfl rfl
theorem cs_X2_value_J9_max_7cf53 : x_CS M_X2_value M_J9_max_7cf53 2 := ⟨(by decide +kernel : plainFor (x_y M_J9_max_7cf53) = true), co_J9_max_7cf53, in_J9, ⟨by decide +kernel, by decide +kernel⟩, by decide +kernel, by decide, by decide⟩
set_option maxRecDepth 100000 in
theorem ml_X2_193 : Cond.methodLink RX2 193 (x_y M_J9_max_7cf53) ∈ x_w := x_in 1101 rfl rfl
set_option maxRecDepth 100000 in
theorem st_J9_max_7cf53 : Cond.static (x_y M_J9_max_7cf53) ∈ x_w := x_in 777 rfl rfl
theorem cs_X2_value_X2_within : x_CS M_X2_value M_X2_within 2 := ⟨(by decide +kernel : plainFor (x_y M_X2_within) = true), co_X2_within, in_X2, ⟨by decide +kernel, by decide +kernel⟩, by decide +kernel, by decide, by decide⟩
theorem cs_X2_aggregate_X2_found : x_CS M_X2_aggregate M_X2_found 2 := ⟨(by decide +kernel : plainFor (x_y M_X2_found) = true), co_X2_found, in_X2, ⟨by decide +kernel, by decide +kernel⟩, by decide +kernel, by decide, by decide⟩
theorem cs_X2_aggregate_J13_bitCount_95d88 : x_CS M_X2_aggregate M_J13_bitCount_95d88 1 := ⟨(by decide +kernel : plainFor (x_y M_J13_bitCount_95d88) = true), co_J13_bitCount_95d88, in_J13, ⟨by decide +kernel, by decide +kernel⟩, by decide +kernel, by decide, by decide⟩
set_option maxRecDepth 100000 in
theorem ml_X2_200 : Cond.methodLink RX2 200 (x_y M_J13_bitCount_95d88) ∈ x_w := x_in 1105 rfl rfl
set_option maxRecDepth 100000 in
theorem st_J13_bitCount_95d88 : Cond.static (x_y M_J13_bitCount_95d88) ∈ x_w := x_in 611 rfl rfl
theorem cs_X2_within_X0_at : x_CS M_X2_within M_X0_at 1 := ⟨(by decide +kernel : plainFor (x_y M_X0_at) = true), co_X0_at, in_X0, ⟨by decide +kernel, by decide +kernel⟩, by decide +kernel, by decide, by decide⟩
theorem cs_X2_within_J9_max_7cf53 : x_CS M_X2_within M_J9_max_7cf53 2 := ⟨(by decide +kernel : plainFor (x_y M_J9_max_7cf53) = true), co_J9_max_7cf53, in_J9, ⟨by decide +kernel, by decide +kernel⟩, by decide +kernel, by decide, by decide⟩
theorem cs_X2_within_X2_joined : x_CS M_X2_within M_X2_joined 3 := ⟨(by decide +kernel : plainFor (x_y M_X2_joined) = true), co_X2_joined, in_X2, ⟨by decide +kernel, by decide +kernel⟩, by decide +kernel, by decide, by decide⟩
set_option maxRecDepth 100000 in
theorem ml_X2_208 : Cond.methodLink RX2 208 (x_y M_X2_joined) ∈ x_w := x_in 1102 rfl rfl
set_option maxRecDepth 100000 in
theorem st_X2_joined : Cond.static (x_y M_X2_joined) ∈ x_w := x_in 1103 rfl rfl
theorem cs_X5_init_X8_init : x_CS M_X5_init M_X8_init 0 := ⟨(by decide +kernel : plainFor (x_y M_X8_init) = true), co_X8_init, in_X8, ⟨by decide +kernel, by decide +kernel⟩, by decide +kernel, by decide, by decide⟩
set_option maxRecDepth 100000 in
theorem ml_X5_30 : Cond.methodLinkNest RX5 30 (x_y M_X8_init) "ArrayRecords" ∈ x_w := x_in 299 rfl rfl
set_option maxRecDepth 100000 in
theorem im_X8_init : Cond.instanceMethod (x_y M_X8_init) ∈ x_w := x_in 300 rfl rfl
theorem cs_X5_init_X4_init : x_CS M_X5_init M_X4_init 0 := ⟨(by decide +kernel : plainFor (x_y M_X4_init) = true), co_X4_init, in_X4, ⟨by decide +kernel, by decide +kernel⟩, by decide +kernel, by decide, by decide⟩
set_option maxRecDepth 100000 in
theorem ml_X5_31 : Cond.methodLinkNest RX5 31 (x_y M_X4_init) "ArrayRecords" ∈ x_w := x_in 349 rfl rfl
set_option maxRecDepth 100000 in
theorem im_X4_init : Cond.instanceMethod (x_y M_X4_init) ∈ x_w := x_in 350 rfl rfl
theorem cs_X6_init_X7_init : x_CS M_X6_init M_X7_init 3 := ⟨(by decide +kernel : plainFor (x_y M_X7_init) = true), co_X7_init, in_X7, ⟨by decide +kernel, by decide +kernel⟩, by decide +kernel, by decide, by decide⟩
set_option maxRecDepth 100000 in
theorem ml_X6_25 : Cond.methodLink RX6 25 (x_y M_X7_init) ∈ x_w := x_in 424 rfl rfl
set_option maxRecDepth 100000 in
theorem im_X7_init : Cond.instanceMethod (x_y M_X7_init) ∈ x_w := x_in 425 rfl rfl
theorem cs_X6_init_X1_init : x_CS M_X6_init M_X1_init 4 := ⟨(by decide +kernel : plainFor (x_y M_X1_init) = true), co_X1_init, in_X1, ⟨by decide +kernel, by decide +kernel⟩, by decide +kernel, by decide, by decide⟩
set_option maxRecDepth 100000 in
theorem ml_X6_34 : Cond.methodLink RX6 34 (x_y M_X1_init) ∈ x_w := x_in 450 rfl rfl
set_option maxRecDepth 100000 in
theorem im_X1_init : Cond.instanceMethod (x_y M_X1_init) ∈ x_w := x_in 451 rfl rfl
theorem cs_X6_reads_X7_clear : x_CS M_X6_reads M_X7_clear 0 := ⟨(by decide +kernel : plainFor (x_y M_X7_clear) = true), co_X7_clear, in_X7, ⟨by decide +kernel, by decide +kernel⟩, by decide +kernel, by decide, by decide⟩
set_option maxRecDepth 100000 in
theorem ml_X6_41 : Cond.methodLink RX6 41 (x_y M_X7_clear) ∈ x_w := x_in 826 rfl rfl
set_option maxRecDepth 100000 in
theorem im_X7_clear : Cond.instanceMethod (x_y M_X7_clear) ∈ x_w := x_in 827 rfl rfl
set_option maxRecDepth 100000 in
theorem se_X7_clear : Cond.selects (x_y M_X7_clear).cls (x_y M_X7_clear) (x_y M_X7_clear) ∈ x_w := x_in 828 rfl rfl
theorem cs_X6_reads_X5_clear : x_CS M_X6_reads M_X5_clear 0 := ⟨(by decide +kernel : plainFor (x_y M_X5_clear) = true), co_X5_clear, in_X5, ⟨by decide +kernel, by decide +kernel⟩, by decide +kernel, by decide, by decide⟩
set_option maxRecDepth 100000 in
theorem ml_X6_44 : Cond.methodLink RX6 44 (x_y M_X5_clear) ∈ x_w := x_in 830 rfl rfl
set_option maxRecDepth 100000 in
theorem im_X5_clear : Cond.instanceMethod (x_y M_X5_clear) ∈ x_w := x_in 831 rfl rfl
set_option maxRecDepth 100000 in
theorem se_X5_clear : Cond.selects (x_y M_X5_clear).cls (x_y M_X5_clear) (x_y M_X5_clear) ∈ x_w := x_in 832 rfl rfl
theorem cs_X6_reads_X9_sort : x_CS M_X6_reads M_X9_sort 0 := ⟨(by decide +kernel : plainFor (x_y M_X9_sort) = true), co_X9_sort, in_X9, ⟨by decide +kernel, by decide +kernel⟩, by decide +kernel, by decide, by decide⟩
set_option maxRecDepth 100000 in
theorem ml_X6_47 : Cond.methodLink RX6 47 (x_y M_X9_sort) ∈ x_w := x_in 834 rfl rfl
theorem cs_X6_reads_X6_kind : x_CS M_X6_reads M_X6_kind 0 := ⟨(by decide +kernel : plainFor (x_y M_X6_kind) = true), co_X6_kind, in_X6, ⟨by decide +kernel, by decide +kernel⟩, by decide +kernel, by decide, by decide⟩
set_option maxRecDepth 100000 in
theorem ml_X6_53 : Cond.methodLink RX6 53 (x_y M_X6_kind) ∈ x_w := x_in 838 rfl rfl
set_option maxRecDepth 100000 in
theorem im_X6_kind : Cond.instanceMethod (x_y M_X6_kind) ∈ x_w := x_in 840 rfl rfl
set_option maxRecDepth 100000 in
theorem se_X6_kind : Cond.selects (x_y M_X6_kind).cls (x_y M_X6_kind) (x_y M_X6_kind) ∈ x_w := x_in 7 rfl rfl
theorem cs_X6_reads_X6_insert : x_CS M_X6_reads M_X6_insert 0 := ⟨(by decide +kernel : plainFor (x_y M_X6_insert) = true), co_X6_insert, in_X6, ⟨by decide +kernel, by decide +kernel⟩, by decide +kernel, by decide, by decide⟩
set_option maxRecDepth 100000 in
theorem ml_X6_56 : Cond.methodLink RX6 56 (x_y M_X6_insert) ∈ x_w := x_in 893 rfl rfl
set_option maxRecDepth 100000 in
theorem im_X6_insert : Cond.instanceMethod (x_y M_X6_insert) ∈ x_w := x_in 895 rfl rfl
set_option maxRecDepth 100000 in
theorem se_X6_insert : Cond.selects (x_y M_X6_insert).cls (x_y M_X6_insert) (x_y M_X6_insert) ∈ x_w := x_in 9 rfl rfl
theorem cs_X6_reads_X6_delete : x_CS M_X6_reads M_X6_delete 0 := ⟨(by decide +kernel : plainFor (x_y M_X6_delete) = true), co_X6_delete, in_X6, ⟨by decide +kernel, by decide +kernel⟩, by decide +kernel, by decide, by decide⟩
set_option maxRecDepth 100000 in
theorem ml_X6_59 : Cond.methodLink RX6 59 (x_y M_X6_delete) ∈ x_w := x_in 996 rfl rfl
set_option maxRecDepth 100000 in
theorem im_X6_delete : Cond.instanceMethod (x_y M_X6_delete) ∈ x_w := x_in 998 rfl rfl
set_option maxRecDepth 100000 in
theorem se_X6_delete : Cond.selects (x_y M_X6_delete).cls (x_y M_X6_delete) (x_y M_X6_delete) ∈ x_w := x_in 19 rfl rfl
theorem cs_X6_reads_X6_set : x_CS M_X6_reads M_X6_set 0 := ⟨(by decide +kernel : plainFor (x_y M_X6_set) = true), co_X6_set, in_X6, ⟨by decide +kernel, by decide +kernel⟩, by decide +kernel, by decide, by decide⟩
set_option maxRecDepth 100000 in
theorem ml_X6_62 : Cond.methodLink RX6 62 (x_y M_X6_set) ∈ x_w := x_in 1004 rfl rfl
set_option maxRecDepth 100000 in
theorem im_X6_set : Cond.instanceMethod (x_y M_X6_set) ∈ x_w := x_in 1006 rfl rfl
set_option maxRecDepth 100000 in
theorem se_X6_set : Cond.selects (x_y M_X6_set).cls (x_y M_X6_set) (x_y M_X6_set) ∈ x_w := x_in 21 rfl rfl
theorem cs_X6_reads_X6_let : x_CS M_X6_reads M_X6_let 0 := ⟨(by decide +kernel : plainFor (x_y M_X6_let) = true), co_X6_let, in_X6, ⟨by decide +kernel, by decide +kernel⟩, by decide +kernel, by decide, by decide⟩
set_option maxRecDepth 100000 in
theorem ml_X6_65 : Cond.methodLink RX6 65 (x_y M_X6_let) ∈ x_w := x_in 1008 rfl rfl
set_option maxRecDepth 100000 in
theorem im_X6_let : Cond.instanceMethod (x_y M_X6_let) ∈ x_w := x_in 1010 rfl rfl
set_option maxRecDepth 100000 in
theorem se_X6_let : Cond.selects (x_y M_X6_let).cls (x_y M_X6_let) (x_y M_X6_let) ∈ x_w := x_in 22 rfl rfl
theorem cs_X6_reads_X6_output : x_CS M_X6_reads M_X6_output 0 := ⟨(by decide +kernel : plainFor (x_y M_X6_output) = true), co_X6_output, in_X6, ⟨by decide +kernel, by decide +kernel⟩, by decide +kernel, by decide, by decide⟩
set_option maxRecDepth 100000 in
theorem ml_X6_68 : Cond.methodLink RX6 68 (x_y M_X6_output) ∈ x_w := x_in 1013 rfl rfl
set_option maxRecDepth 100000 in
theorem im_X6_output : Cond.instanceMethod (x_y M_X6_output) ∈ x_w := x_in 1015 rfl rfl
set_option maxRecDepth 100000 in
theorem se_X6_output : Cond.selects (x_y M_X6_output).cls (x_y M_X6_output) (x_y M_X6_output) ∈ x_w := x_in 23 rfl rfl
theorem cs_X6_reads_X6_each : x_CS M_X6_reads M_X6_each 0 := ⟨(by decide +kernel : plainFor (x_y M_X6_each) = true), co_X6_each, in_X6, ⟨by decide +kernel, by decide +kernel⟩, by decide +kernel, by decide, by decide⟩
set_option maxRecDepth 100000 in
theorem ml_X6_71 : Cond.methodLink RX6 71 (x_y M_X6_each) ∈ x_w := x_in 1017 rfl rfl
set_option maxRecDepth 100000 in
theorem im_X6_each : Cond.instanceMethod (x_y M_X6_each) ∈ x_w := x_in 1019 rfl rfl
set_option maxRecDepth 100000 in
theorem se_X6_each : Cond.selects (x_y M_X6_each).cls (x_y M_X6_each) (x_y M_X6_each) ∈ x_w := x_in 24 rfl rfl
theorem cs_X6_reads_X6_conditional : x_CS M_X6_reads M_X6_conditional 0 := ⟨(by decide +kernel : plainFor (x_y M_X6_conditional) = true), co_X6_conditional, in_X6, ⟨by decide +kernel, by decide +kernel⟩, by decide +kernel, by decide, by decide⟩
set_option maxRecDepth 100000 in
theorem ml_X6_74 : Cond.methodLink RX6 74 (x_y M_X6_conditional) ∈ x_w := x_in 1027 rfl rfl
set_option maxRecDepth 100000 in
theorem im_X6_conditional : Cond.instanceMethod (x_y M_X6_conditional) ∈ x_w := x_in 1029 rfl rfl
set_option maxRecDepth 100000 in
theorem se_X6_conditional : Cond.selects (x_y M_X6_conditional).cls (x_y M_X6_conditional) (x_y M_X6_conditional) ∈ x_w := x_in 25 rfl rfl
theorem cs_X6_reads_X6_remove : x_CS M_X6_reads M_X6_remove 0 := ⟨(by decide +kernel : plainFor (x_y M_X6_remove) = true), co_X6_remove, in_X6, ⟨by decide +kernel, by decide +kernel⟩, by decide +kernel, by decide, by decide⟩
set_option maxRecDepth 100000 in
theorem ml_X6_77 : Cond.methodLink RX6 77 (x_y M_X6_remove) ∈ x_w := x_in 1031 rfl rfl
set_option maxRecDepth 100000 in
theorem im_X6_remove : Cond.instanceMethod (x_y M_X6_remove) ∈ x_w := x_in 1033 rfl rfl
set_option maxRecDepth 100000 in
theorem se_X6_remove : Cond.selects (x_y M_X6_remove).cls (x_y M_X6_remove) (x_y M_X6_remove) ∈ x_w := x_in 26 rfl rfl
theorem cs_X6_reads_X6_closeBlock : x_CS M_X6_reads M_X6_closeBlock 0 := ⟨(by decide +kernel : plainFor (x_y M_X6_closeBlock) = true), co_X6_closeBlock, in_X6, ⟨by decide +kernel, by decide +kernel⟩, by decide +kernel, by decide, by decide⟩
set_option maxRecDepth 100000 in
theorem ml_X6_80 : Cond.methodLink RX6 80 (x_y M_X6_closeBlock) ∈ x_w := x_in 1036 rfl rfl
set_option maxRecDepth 100000 in
theorem im_X6_closeBlock : Cond.instanceMethod (x_y M_X6_closeBlock) ∈ x_w := x_in 1038 rfl rfl
set_option maxRecDepth 100000 in
theorem se_X6_closeBlock : Cond.selects (x_y M_X6_closeBlock).cls (x_y M_X6_closeBlock) (x_y M_X6_closeBlock) ∈ x_w := x_in 27 rfl rfl
theorem cs_X6_reads_X6_change : x_CS M_X6_reads M_X6_change 0 := ⟨(by decide +kernel : plainFor (x_y M_X6_change) = true), co_X6_change, in_X6, ⟨by decide +kernel, by decide +kernel⟩, by decide +kernel, by decide, by decide⟩
set_option maxRecDepth 100000 in
theorem ml_X6_83 : Cond.methodLink RX6 83 (x_y M_X6_change) ∈ x_w := x_in 1045 rfl rfl
set_option maxRecDepth 100000 in
theorem im_X6_change : Cond.instanceMethod (x_y M_X6_change) ∈ x_w := x_in 1047 rfl rfl
set_option maxRecDepth 100000 in
theorem se_X6_change : Cond.selects (x_y M_X6_change).cls (x_y M_X6_change) (x_y M_X6_change) ∈ x_w := x_in 28 rfl rfl
theorem cs_X6_reads_X6_noBlockIsOpen : x_CS M_X6_reads M_X6_noBlockIsOpen 0 := ⟨(by decide +kernel : plainFor (x_y M_X6_noBlockIsOpen) = true), co_X6_noBlockIsOpen, in_X6, ⟨by decide +kernel, by decide +kernel⟩, by decide +kernel, by decide, by decide⟩
set_option maxRecDepth 100000 in
theorem ml_X6_86 : Cond.methodLink RX6 86 (x_y M_X6_noBlockIsOpen) ∈ x_w := x_in 1049 rfl rfl
set_option maxRecDepth 100000 in
theorem im_X6_noBlockIsOpen : Cond.instanceMethod (x_y M_X6_noBlockIsOpen) ∈ x_w := x_in 1051 rfl rfl
set_option maxRecDepth 100000 in
theorem se_X6_noBlockIsOpen : Cond.selects (x_y M_X6_noBlockIsOpen).cls (x_y M_X6_noBlockIsOpen) (x_y M_X6_noBlockIsOpen) ∈ x_w := x_in 29 rfl rfl
theorem cs_X6_kind_X5_addStep : x_CS M_X6_kind M_X5_addStep 1 := ⟨(by decide +kernel : plainFor (x_y M_X5_addStep) = true), co_X5_addStep, in_X5, ⟨by decide +kernel, by decide +kernel⟩, by decide +kernel, by decide, by decide⟩
set_option maxRecDepth 100000 in
theorem ml_X6_91 : Cond.methodLink RX6 91 (x_y M_X5_addStep) ∈ x_w := x_in 842 rfl rfl
set_option maxRecDepth 100000 in
theorem im_X5_addStep : Cond.instanceMethod (x_y M_X5_addStep) ∈ x_w := x_in 843 rfl rfl
set_option maxRecDepth 100000 in
theorem se_X5_addStep : Cond.selects (x_y M_X5_addStep).cls (x_y M_X5_addStep) (x_y M_X5_addStep) ∈ x_w := x_in 844 rfl rfl
theorem cs_X6_kind_X9_pass : x_CS M_X6_kind M_X9_pass 0 := ⟨(by decide +kernel : plainFor (x_y M_X9_pass) = true), co_X9_pass, in_X9, ⟨by decide +kernel, by decide +kernel⟩, by decide +kernel, by decide, by decide⟩
set_option maxRecDepth 100000 in
theorem ml_X6_95 : Cond.methodLink RX6 95 (x_y M_X9_pass) ∈ x_w := x_in 846 rfl rfl
theorem cs_X6_kind_X9_name : x_CS M_X6_kind M_X9_name 0 := ⟨(by decide +kernel : plainFor (x_y M_X9_name) = true), co_X9_name, in_X9, ⟨by decide +kernel, by decide +kernel⟩, by decide +kernel, by decide, by decide⟩
set_option maxRecDepth 100000 in
theorem ml_X6_98 : Cond.methodLink RX6 98 (x_y M_X9_name) ∈ x_w := x_in 850 rfl rfl
theorem cs_X6_kind_X3_kind : x_CS M_X6_kind M_X3_kind 1 := ⟨(by decide +kernel : plainFor (x_y M_X3_kind) = true), co_X3_kind, in_X3, ⟨by decide +kernel, by decide +kernel⟩, by decide +kernel, by decide, by decide⟩
set_option maxRecDepth 100000 in
theorem ml_X6_102 : Cond.methodLink RX6 102 (x_y M_X3_kind) ∈ x_w := x_in 854 rfl rfl
theorem cs_X6_kind_X3_variable : x_CS M_X6_kind M_X3_variable 1 := ⟨(by decide +kernel : plainFor (x_y M_X3_variable) = true), co_X3_variable, in_X3, ⟨by decide +kernel, by decide +kernel⟩, by decide +kernel, by decide, by decide⟩
set_option maxRecDepth 100000 in
theorem ml_X6_107 : Cond.methodLink RX6 107 (x_y M_X3_variable) ∈ x_w := x_in 858 rfl rfl
set_option maxRecDepth 100000 in
theorem im_X3_variable : Cond.instanceMethod (x_y M_X3_variable) ∈ x_w := x_in 859 rfl rfl
set_option maxRecDepth 100000 in
theorem se_X3_variable : Cond.selects (x_y M_X3_variable).cls (x_y M_X3_variable) (x_y M_X3_variable) ∈ x_w := x_in 860 rfl rfl
theorem cs_X6_kind_X3_addKind : x_CS M_X6_kind M_X3_addKind 1 := ⟨(by decide +kernel : plainFor (x_y M_X3_addKind) = true), co_X3_addKind, in_X3, ⟨by decide +kernel, by decide +kernel⟩, by decide +kernel, by decide, by decide⟩
set_option maxRecDepth 100000 in
theorem ml_X6_110 : Cond.methodLink RX6 110 (x_y M_X3_addKind) ∈ x_w := x_in 862 rfl rfl
set_option maxRecDepth 100000 in
theorem im_X3_addKind : Cond.instanceMethod (x_y M_X3_addKind) ∈ x_w := x_in 863 rfl rfl
set_option maxRecDepth 100000 in
theorem se_X3_addKind : Cond.selects (x_y M_X3_addKind).cls (x_y M_X3_addKind) (x_y M_X3_addKind) ∈ x_w := x_in 864 rfl rfl
theorem cs_X6_kind_X9_passed : x_CS M_X6_kind M_X9_passed 1 := ⟨(by decide +kernel : plainFor (x_y M_X9_passed) = true), co_X9_passed, in_X9, ⟨by decide +kernel, by decide +kernel⟩, by decide +kernel, by decide, by decide⟩
set_option maxRecDepth 100000 in
theorem ml_X6_114 : Cond.methodLink RX6 114 (x_y M_X9_passed) ∈ x_w := x_in 867 rfl rfl
theorem cs_X6_kind_X6_field : x_CS M_X6_kind M_X6_field 2 := ⟨(by decide +kernel : plainFor (x_y M_X6_field) = true), co_X6_field, in_X6, ⟨by decide +kernel, by decide +kernel⟩, by decide +kernel, by decide, by decide⟩
set_option maxRecDepth 100000 in
theorem ml_X6_118 : Cond.methodLink RX6 118 (x_y M_X6_field) ∈ x_w := x_in 871 rfl rfl
set_option maxRecDepth 100000 in
theorem im_X6_field : Cond.instanceMethod (x_y M_X6_field) ∈ x_w := x_in 873 rfl rfl
set_option maxRecDepth 100000 in
theorem se_X6_field : Cond.selects (x_y M_X6_field).cls (x_y M_X6_field) (x_y M_X6_field) ∈ x_w := x_in 8 rfl rfl
theorem cs_X6_kind_X9_take : x_CS M_X6_kind M_X9_take 1 := ⟨(by decide +kernel : plainFor (x_y M_X9_take) = true), co_X9_take, in_X9, ⟨by decide +kernel, by decide +kernel⟩, by decide +kernel, by decide, by decide⟩
set_option maxRecDepth 100000 in
theorem ml_X6_122 : Cond.methodLink RX6 122 (x_y M_X9_take) ∈ x_w := x_in 879 rfl rfl
theorem cs_X6_field_X9_name : x_CS M_X6_field M_X9_name 0 := ⟨(by decide +kernel : plainFor (x_y M_X9_name) = true), co_X9_name, in_X9, ⟨by decide +kernel, by decide +kernel⟩, by decide +kernel, by decide, by decide⟩
theorem cs_X6_field_X3_field : x_CS M_X6_field M_X3_field 2 := ⟨(by decide +kernel : plainFor (x_y M_X3_field) = true), co_X3_field, in_X3, ⟨by decide +kernel, by decide +kernel⟩, by decide +kernel, by decide, by decide⟩
set_option maxRecDepth 100000 in
theorem ml_X6_126 : Cond.methodLink RX6 126 (x_y M_X3_field) ∈ x_w := x_in 875 rfl rfl
theorem cs_X6_field_X9_pass : x_CS M_X6_field M_X9_pass 0 := ⟨(by decide +kernel : plainFor (x_y M_X9_pass) = true), co_X9_pass, in_X9, ⟨by decide +kernel, by decide +kernel⟩, by decide +kernel, by decide, by decide⟩
theorem cs_X6_field_X9_take : x_CS M_X6_field M_X9_take 1 := ⟨(by decide +kernel : plainFor (x_y M_X9_take) = true), co_X9_take, in_X9, ⟨by decide +kernel, by decide +kernel⟩, by decide +kernel, by decide, by decide⟩
theorem cs_X6_field_X9_number : x_CS M_X6_field M_X9_number 0 := ⟨(by decide +kernel : plainFor (x_y M_X9_number) = true), co_X9_number, in_X9, ⟨by decide +kernel, by decide +kernel⟩, by decide +kernel, by decide, by decide⟩
set_option maxRecDepth 100000 in
theorem ml_X6_129 : Cond.methodLink RX6 129 (x_y M_X9_number) ∈ x_w := x_in 885 rfl rfl
theorem cs_X6_field_X3_addField : x_CS M_X6_field M_X3_addField 3 := ⟨(by decide +kernel : plainFor (x_y M_X3_addField) = true), co_X3_addField, in_X3, ⟨by decide +kernel, by decide +kernel⟩, by decide +kernel, by decide, by decide⟩
set_option maxRecDepth 100000 in
theorem ml_X6_132 : Cond.methodLink RX6 132 (x_y M_X3_addField) ∈ x_w := x_in 889 rfl rfl
set_option maxRecDepth 100000 in
theorem im_X3_addField : Cond.instanceMethod (x_y M_X3_addField) ∈ x_w := x_in 890 rfl rfl
set_option maxRecDepth 100000 in
theorem se_X3_addField : Cond.selects (x_y M_X3_addField).cls (x_y M_X3_addField) (x_y M_X3_addField) ∈ x_w := x_in 891 rfl rfl
theorem cs_X6_insert_X5_addStep : x_CS M_X6_insert M_X5_addStep 1 := ⟨(by decide +kernel : plainFor (x_y M_X5_addStep) = true), co_X5_addStep, in_X5, ⟨by decide +kernel, by decide +kernel⟩, by decide +kernel, by decide, by decide⟩
theorem cs_X6_insert_X9_pass : x_CS M_X6_insert M_X9_pass 0 := ⟨(by decide +kernel : plainFor (x_y M_X9_pass) = true), co_X9_pass, in_X9, ⟨by decide +kernel, by decide +kernel⟩, by decide +kernel, by decide, by decide⟩
theorem cs_X6_insert_X7_takeKind : x_CS M_X6_insert M_X7_takeKind 0 := ⟨(by decide +kernel : plainFor (x_y M_X7_takeKind) = true), co_X7_takeKind, in_X7, ⟨by decide +kernel, by decide +kernel⟩, by decide +kernel, by decide, by decide⟩
set_option maxRecDepth 100000 in
theorem ml_X6_136 : Cond.methodLink RX6 136 (x_y M_X7_takeKind) ∈ x_w := x_in 897 rfl rfl
theorem cs_X6_insert_X6_puts : x_CS M_X6_insert M_X6_puts 2 := ⟨(by decide +kernel : plainFor (x_y M_X6_puts) = true), co_X6_puts, in_X6, ⟨by decide +kernel, by decide +kernel⟩, by decide +kernel, by decide, by decide⟩
set_option maxRecDepth 100000 in
theorem ml_X6_144 : Cond.methodLink RX6 144 (x_y M_X6_puts) ∈ x_w := x_in 906 rfl rfl
set_option maxRecDepth 100000 in
theorem im_X6_puts : Cond.instanceMethod (x_y M_X6_puts) ∈ x_w := x_in 908 rfl rfl
set_option maxRecDepth 100000 in
theorem se_X6_puts : Cond.selects (x_y M_X6_puts).cls (x_y M_X6_puts) (x_y M_X6_puts) ∈ x_w := x_in 10 rfl rfl
theorem cs_X6_insert_X9_take : x_CS M_X6_insert M_X9_take 1 := ⟨(by decide +kernel : plainFor (x_y M_X9_take) = true), co_X9_take, in_X9, ⟨by decide +kernel, by decide +kernel⟩, by decide +kernel, by decide, by decide⟩
theorem cs_X6_delete_X5_addStep : x_CS M_X6_delete M_X5_addStep 1 := ⟨(by decide +kernel : plainFor (x_y M_X5_addStep) = true), co_X5_addStep, in_X5, ⟨by decide +kernel, by decide +kernel⟩, by decide +kernel, by decide, by decide⟩
theorem cs_X6_delete_X9_pass : x_CS M_X6_delete M_X9_pass 0 := ⟨(by decide +kernel : plainFor (x_y M_X9_pass) = true), co_X9_pass, in_X9, ⟨by decide +kernel, by decide +kernel⟩, by decide +kernel, by decide, by decide⟩
theorem cs_X6_delete_X7_takeKind : x_CS M_X6_delete M_X7_takeKind 0 := ⟨(by decide +kernel : plainFor (x_y M_X7_takeKind) = true), co_X7_takeKind, in_X7, ⟨by decide +kernel, by decide +kernel⟩, by decide +kernel, by decide, by decide⟩
theorem cs_X6_delete_X6_where : x_CS M_X6_delete M_X6_where 1 := ⟨(by decide +kernel : plainFor (x_y M_X6_where) = true), co_X6_where, in_X6, ⟨by decide +kernel, by decide +kernel⟩, by decide +kernel, by decide, by decide⟩
set_option maxRecDepth 100000 in
theorem ml_X6_148 : Cond.methodLink RX6 148 (x_y M_X6_where) ∈ x_w := x_in 1000 rfl rfl
set_option maxRecDepth 100000 in
theorem im_X6_where : Cond.instanceMethod (x_y M_X6_where) ∈ x_w := x_in 1002 rfl rfl
set_option maxRecDepth 100000 in
theorem se_X6_where : Cond.selects (x_y M_X6_where).cls (x_y M_X6_where) (x_y M_X6_where) ∈ x_w := x_in 20 rfl rfl
theorem cs_X6_delete_X9_take : x_CS M_X6_delete M_X9_take 1 := ⟨(by decide +kernel : plainFor (x_y M_X9_take) = true), co_X9_take, in_X9, ⟨by decide +kernel, by decide +kernel⟩, by decide +kernel, by decide, by decide⟩
theorem cs_X6_set_X5_addStep : x_CS M_X6_set M_X5_addStep 1 := ⟨(by decide +kernel : plainFor (x_y M_X5_addStep) = true), co_X5_addStep, in_X5, ⟨by decide +kernel, by decide +kernel⟩, by decide +kernel, by decide, by decide⟩
theorem cs_X6_set_X9_pass : x_CS M_X6_set M_X9_pass 0 := ⟨(by decide +kernel : plainFor (x_y M_X9_pass) = true), co_X9_pass, in_X9, ⟨by decide +kernel, by decide +kernel⟩, by decide +kernel, by decide, by decide⟩
theorem cs_X6_set_X7_takeKind : x_CS M_X6_set M_X7_takeKind 0 := ⟨(by decide +kernel : plainFor (x_y M_X7_takeKind) = true), co_X7_takeKind, in_X7, ⟨by decide +kernel, by decide +kernel⟩, by decide +kernel, by decide, by decide⟩
theorem cs_X6_set_X6_where : x_CS M_X6_set M_X6_where 1 := ⟨(by decide +kernel : plainFor (x_y M_X6_where) = true), co_X6_where, in_X6, ⟨by decide +kernel, by decide +kernel⟩, by decide +kernel, by decide, by decide⟩
theorem cs_X6_set_X9_take : x_CS M_X6_set M_X9_take 1 := ⟨(by decide +kernel : plainFor (x_y M_X9_take) = true), co_X9_take, in_X9, ⟨by decide +kernel, by decide +kernel⟩, by decide +kernel, by decide, by decide⟩
theorem cs_X6_set_X6_puts : x_CS M_X6_set M_X6_puts 2 := ⟨(by decide +kernel : plainFor (x_y M_X6_puts) = true), co_X6_puts, in_X6, ⟨by decide +kernel, by decide +kernel⟩, by decide +kernel, by decide, by decide⟩
theorem cs_X6_where_X9_passed : x_CS M_X6_where M_X9_passed 1 := ⟨(by decide +kernel : plainFor (x_y M_X9_passed) = true), co_X9_passed, in_X9, ⟨by decide +kernel, by decide +kernel⟩, by decide +kernel, by decide, by decide⟩
theorem cs_X6_where_X1_read : x_CS M_X6_where M_X1_read 1 := ⟨(by decide +kernel : plainFor (x_y M_X1_read) = true), co_X1_read, in_X1, ⟨by decide +kernel, by decide +kernel⟩, by decide +kernel, by decide, by decide⟩
set_option maxRecDepth 100000 in
theorem ml_X6_154 : Cond.methodLink RX6 154 (x_y M_X1_read) ∈ x_w := x_in 910 rfl rfl
set_option maxRecDepth 100000 in
theorem im_X1_read : Cond.instanceMethod (x_y M_X1_read) ∈ x_w := x_in 911 rfl rfl
set_option maxRecDepth 100000 in
theorem se_X1_read : Cond.selects (x_y M_X1_read).cls (x_y M_X1_read) (x_y M_X1_read) ∈ x_w := x_in 912 rfl rfl
theorem cs_X6_puts_X9_passed : x_CS M_X6_puts M_X9_passed 1 := ⟨(by decide +kernel : plainFor (x_y M_X9_passed) = true), co_X9_passed, in_X9, ⟨by decide +kernel, by decide +kernel⟩, by decide +kernel, by decide, by decide⟩
theorem cs_X6_puts_X9_name : x_CS M_X6_puts M_X9_name 0 := ⟨(by decide +kernel : plainFor (x_y M_X9_name) = true), co_X9_name, in_X9, ⟨by decide +kernel, by decide +kernel⟩, by decide +kernel, by decide, by decide⟩
theorem cs_X6_puts_X3_field : x_CS M_X6_puts M_X3_field 2 := ⟨(by decide +kernel : plainFor (x_y M_X3_field) = true), co_X3_field, in_X3, ⟨by decide +kernel, by decide +kernel⟩, by decide +kernel, by decide, by decide⟩
theorem cs_X6_puts_X9_pass : x_CS M_X6_puts M_X9_pass 0 := ⟨(by decide +kernel : plainFor (x_y M_X9_pass) = true), co_X9_pass, in_X9, ⟨by decide +kernel, by decide +kernel⟩, by decide +kernel, by decide, by decide⟩
theorem cs_X6_puts_X9_take : x_CS M_X6_puts M_X9_take 1 := ⟨(by decide +kernel : plainFor (x_y M_X9_take) = true), co_X9_take, in_X9, ⟨by decide +kernel, by decide +kernel⟩, by decide +kernel, by decide, by decide⟩
theorem cs_X6_puts_X1_read : x_CS M_X6_puts M_X1_read 1 := ⟨(by decide +kernel : plainFor (x_y M_X1_read) = true), co_X1_read, in_X1, ⟨by decide +kernel, by decide +kernel⟩, by decide +kernel, by decide, by decide⟩
theorem cs_X6_puts_X5_addPut : x_CS M_X6_puts M_X5_addPut 2 := ⟨(by decide +kernel : plainFor (x_y M_X5_addPut) = true), co_X5_addPut, in_X5, ⟨by decide +kernel, by decide +kernel⟩, by decide +kernel, by decide, by decide⟩
set_option maxRecDepth 100000 in
theorem ml_X6_162 : Cond.methodLink RX6 162 (x_y M_X5_addPut) ∈ x_w := x_in 992 rfl rfl
set_option maxRecDepth 100000 in
theorem im_X5_addPut : Cond.instanceMethod (x_y M_X5_addPut) ∈ x_w := x_in 993 rfl rfl
set_option maxRecDepth 100000 in
theorem se_X5_addPut : Cond.selects (x_y M_X5_addPut).cls (x_y M_X5_addPut) (x_y M_X5_addPut) ∈ x_w := x_in 994 rfl rfl
theorem cs_X6_let_X5_addStep : x_CS M_X6_let M_X5_addStep 1 := ⟨(by decide +kernel : plainFor (x_y M_X5_addStep) = true), co_X5_addStep, in_X5, ⟨by decide +kernel, by decide +kernel⟩, by decide +kernel, by decide, by decide⟩
theorem cs_X6_let_X9_pass : x_CS M_X6_let M_X9_pass 0 := ⟨(by decide +kernel : plainFor (x_y M_X9_pass) = true), co_X9_pass, in_X9, ⟨by decide +kernel, by decide +kernel⟩, by decide +kernel, by decide, by decide⟩
theorem cs_X6_let_X7_takeVariable : x_CS M_X6_let M_X7_takeVariable 0 := ⟨(by decide +kernel : plainFor (x_y M_X7_takeVariable) = true), co_X7_takeVariable, in_X7, ⟨by decide +kernel, by decide +kernel⟩, by decide +kernel, by decide, by decide⟩
set_option maxRecDepth 100000 in
theorem ml_X6_169 : Cond.methodLink RX6 169 (x_y M_X7_takeVariable) ∈ x_w := x_in 1012 rfl rfl
theorem cs_X6_let_X9_take : x_CS M_X6_let M_X9_take 1 := ⟨(by decide +kernel : plainFor (x_y M_X9_take) = true), co_X9_take, in_X9, ⟨by decide +kernel, by decide +kernel⟩, by decide +kernel, by decide, by decide⟩
theorem cs_X6_let_X1_read : x_CS M_X6_let M_X1_read 1 := ⟨(by decide +kernel : plainFor (x_y M_X1_read) = true), co_X1_read, in_X1, ⟨by decide +kernel, by decide +kernel⟩, by decide +kernel, by decide, by decide⟩
theorem cs_X6_output_X5_addStep : x_CS M_X6_output M_X5_addStep 1 := ⟨(by decide +kernel : plainFor (x_y M_X5_addStep) = true), co_X5_addStep, in_X5, ⟨by decide +kernel, by decide +kernel⟩, by decide +kernel, by decide, by decide⟩
theorem cs_X6_output_X9_pass : x_CS M_X6_output M_X9_pass 0 := ⟨(by decide +kernel : plainFor (x_y M_X9_pass) = true), co_X9_pass, in_X9, ⟨by decide +kernel, by decide +kernel⟩, by decide +kernel, by decide, by decide⟩
theorem cs_X6_output_X1_read : x_CS M_X6_output M_X1_read 1 := ⟨(by decide +kernel : plainFor (x_y M_X1_read) = true), co_X1_read, in_X1, ⟨by decide +kernel, by decide +kernel⟩, by decide +kernel, by decide, by decide⟩
theorem cs_X6_output_X9_take : x_CS M_X6_output M_X9_take 1 := ⟨(by decide +kernel : plainFor (x_y M_X9_take) = true), co_X9_take, in_X9, ⟨by decide +kernel, by decide +kernel⟩, by decide +kernel, by decide, by decide⟩
theorem cs_X6_each_X5_addStep : x_CS M_X6_each M_X5_addStep 1 := ⟨(by decide +kernel : plainFor (x_y M_X5_addStep) = true), co_X5_addStep, in_X5, ⟨by decide +kernel, by decide +kernel⟩, by decide +kernel, by decide, by decide⟩
theorem cs_X6_each_X9_pass : x_CS M_X6_each M_X9_pass 0 := ⟨(by decide +kernel : plainFor (x_y M_X9_pass) = true), co_X9_pass, in_X9, ⟨by decide +kernel, by decide +kernel⟩, by decide +kernel, by decide, by decide⟩
theorem cs_X6_each_X7_takeKind : x_CS M_X6_each M_X7_takeKind 0 := ⟨(by decide +kernel : plainFor (x_y M_X7_takeKind) = true), co_X7_takeKind, in_X7, ⟨by decide +kernel, by decide +kernel⟩, by decide +kernel, by decide, by decide⟩
theorem cs_X6_each_X9_take : x_CS M_X6_each M_X9_take 1 := ⟨(by decide +kernel : plainFor (x_y M_X9_take) = true), co_X9_take, in_X9, ⟨by decide +kernel, by decide +kernel⟩, by decide +kernel, by decide, by decide⟩
theorem cs_X6_each_X7_takeField : x_CS M_X6_each M_X7_takeField 1 := ⟨(by decide +kernel : plainFor (x_y M_X7_takeField) = true), co_X7_takeField, in_X7, ⟨by decide +kernel, by decide +kernel⟩, by decide +kernel, by decide, by decide⟩
set_option maxRecDepth 100000 in
theorem ml_X6_177 : Cond.methodLink RX6 177 (x_y M_X7_takeField) ∈ x_w := x_in 1021 rfl rfl
theorem cs_X6_each_X6_where : x_CS M_X6_each M_X6_where 1 := ⟨(by decide +kernel : plainFor (x_y M_X6_where) = true), co_X6_where, in_X6, ⟨by decide +kernel, by decide +kernel⟩, by decide +kernel, by decide, by decide⟩
theorem cs_X6_each_X7_openBlock : x_CS M_X6_each M_X7_openBlock 1 := ⟨(by decide +kernel : plainFor (x_y M_X7_openBlock) = true), co_X7_openBlock, in_X7, ⟨by decide +kernel, by decide +kernel⟩, by decide +kernel, by decide, by decide⟩
set_option maxRecDepth 100000 in
theorem ml_X6_191 : Cond.methodLink RX6 191 (x_y M_X7_openBlock) ∈ x_w := x_in 1022 rfl rfl
set_option maxRecDepth 100000 in
theorem im_X7_openBlock : Cond.instanceMethod (x_y M_X7_openBlock) ∈ x_w := x_in 1023 rfl rfl
set_option maxRecDepth 100000 in
theorem se_X7_openBlock : Cond.selects (x_y M_X7_openBlock).cls (x_y M_X7_openBlock) (x_y M_X7_openBlock) ∈ x_w := x_in 1024 rfl rfl
theorem cs_X6_conditional_X9_sort : x_CS M_X6_conditional M_X9_sort 0 := ⟨(by decide +kernel : plainFor (x_y M_X9_sort) = true), co_X9_sort, in_X9, ⟨by decide +kernel, by decide +kernel⟩, by decide +kernel, by decide, by decide⟩
theorem cs_X6_conditional_X5_addStep : x_CS M_X6_conditional M_X5_addStep 1 := ⟨(by decide +kernel : plainFor (x_y M_X5_addStep) = true), co_X5_addStep, in_X5, ⟨by decide +kernel, by decide +kernel⟩, by decide +kernel, by decide, by decide⟩
theorem cs_X6_conditional_X9_pass : x_CS M_X6_conditional M_X9_pass 0 := ⟨(by decide +kernel : plainFor (x_y M_X9_pass) = true), co_X9_pass, in_X9, ⟨by decide +kernel, by decide +kernel⟩, by decide +kernel, by decide, by decide⟩
theorem cs_X6_conditional_X1_read : x_CS M_X6_conditional M_X1_read 1 := ⟨(by decide +kernel : plainFor (x_y M_X1_read) = true), co_X1_read, in_X1, ⟨by decide +kernel, by decide +kernel⟩, by decide +kernel, by decide, by decide⟩
theorem cs_X6_conditional_X7_openBlock : x_CS M_X6_conditional M_X7_openBlock 1 := ⟨(by decide +kernel : plainFor (x_y M_X7_openBlock) = true), co_X7_openBlock, in_X7, ⟨by decide +kernel, by decide +kernel⟩, by decide +kernel, by decide, by decide⟩
theorem cs_X6_closeBlock_X7_closeBlock : x_CS M_X6_closeBlock M_X7_closeBlock 0 := ⟨(by decide +kernel : plainFor (x_y M_X7_closeBlock) = true), co_X7_closeBlock, in_X7, ⟨by decide +kernel, by decide +kernel⟩, by decide +kernel, by decide, by decide⟩
set_option maxRecDepth 100000 in
theorem ml_X6_194 : Cond.methodLink RX6 194 (x_y M_X7_closeBlock) ∈ x_w := x_in 1040 rfl rfl
set_option maxRecDepth 100000 in
theorem im_X7_closeBlock : Cond.instanceMethod (x_y M_X7_closeBlock) ∈ x_w := x_in 1041 rfl rfl
set_option maxRecDepth 100000 in
theorem se_X7_closeBlock : Cond.selects (x_y M_X7_closeBlock).cls (x_y M_X7_closeBlock) (x_y M_X7_closeBlock) ∈ x_w := x_in 1042 rfl rfl
theorem cs_X6_closeBlock_X5_addStep : x_CS M_X6_closeBlock M_X5_addStep 1 := ⟨(by decide +kernel : plainFor (x_y M_X5_addStep) = true), co_X5_addStep, in_X5, ⟨by decide +kernel, by decide +kernel⟩, by decide +kernel, by decide, by decide⟩
theorem cs_X6_closeBlock_X9_passed : x_CS M_X6_closeBlock M_X9_passed 1 := ⟨(by decide +kernel : plainFor (x_y M_X9_passed) = true), co_X9_passed, in_X9, ⟨by decide +kernel, by decide +kernel⟩, by decide +kernel, by decide, by decide⟩
theorem cs_X6_closeBlock_X7_openBlock : x_CS M_X6_closeBlock M_X7_openBlock 1 := ⟨(by decide +kernel : plainFor (x_y M_X7_openBlock) = true), co_X7_openBlock, in_X7, ⟨by decide +kernel, by decide +kernel⟩, by decide +kernel, by decide, by decide⟩
theorem cs_X6_remove_X5_addStep : x_CS M_X6_remove M_X5_addStep 1 := ⟨(by decide +kernel : plainFor (x_y M_X5_addStep) = true), co_X5_addStep, in_X5, ⟨by decide +kernel, by decide +kernel⟩, by decide +kernel, by decide, by decide⟩
theorem cs_X6_remove_X9_pass : x_CS M_X6_remove M_X9_pass 0 := ⟨(by decide +kernel : plainFor (x_y M_X9_pass) = true), co_X9_pass, in_X9, ⟨by decide +kernel, by decide +kernel⟩, by decide +kernel, by decide, by decide⟩
theorem cs_X6_remove_X7_cursor : x_CS M_X6_remove M_X7_cursor 0 := ⟨(by decide +kernel : plainFor (x_y M_X7_cursor) = true), co_X7_cursor, in_X7, ⟨by decide +kernel, by decide +kernel⟩, by decide +kernel, by decide, by decide⟩
set_option maxRecDepth 100000 in
theorem ml_X6_206 : Cond.methodLink RX6 206 (x_y M_X7_cursor) ∈ x_w := x_in 1035 rfl rfl
theorem cs_X6_remove_X7_takeKind : x_CS M_X6_remove M_X7_takeKind 0 := ⟨(by decide +kernel : plainFor (x_y M_X7_takeKind) = true), co_X7_takeKind, in_X7, ⟨by decide +kernel, by decide +kernel⟩, by decide +kernel, by decide, by decide⟩
theorem cs_X6_remove_X9_take : x_CS M_X6_remove M_X9_take 1 := ⟨(by decide +kernel : plainFor (x_y M_X9_take) = true), co_X9_take, in_X9, ⟨by decide +kernel, by decide +kernel⟩, by decide +kernel, by decide, by decide⟩
theorem cs_X6_change_X5_addStep : x_CS M_X6_change M_X5_addStep 1 := ⟨(by decide +kernel : plainFor (x_y M_X5_addStep) = true), co_X5_addStep, in_X5, ⟨by decide +kernel, by decide +kernel⟩, by decide +kernel, by decide, by decide⟩
theorem cs_X6_change_X7_cursor : x_CS M_X6_change M_X7_cursor 0 := ⟨(by decide +kernel : plainFor (x_y M_X7_cursor) = true), co_X7_cursor, in_X7, ⟨by decide +kernel, by decide +kernel⟩, by decide +kernel, by decide, by decide⟩
theorem cs_X6_change_X7_takeKind : x_CS M_X6_change M_X7_takeKind 0 := ⟨(by decide +kernel : plainFor (x_y M_X7_takeKind) = true), co_X7_takeKind, in_X7, ⟨by decide +kernel, by decide +kernel⟩, by decide +kernel, by decide, by decide⟩
theorem cs_X6_change_X9_take : x_CS M_X6_change M_X9_take 1 := ⟨(by decide +kernel : plainFor (x_y M_X9_take) = true), co_X9_take, in_X9, ⟨by decide +kernel, by decide +kernel⟩, by decide +kernel, by decide, by decide⟩
theorem cs_X6_change_X7_takeField : x_CS M_X6_change M_X7_takeField 1 := ⟨(by decide +kernel : plainFor (x_y M_X7_takeField) = true), co_X7_takeField, in_X7, ⟨by decide +kernel, by decide +kernel⟩, by decide +kernel, by decide, by decide⟩
theorem cs_X6_change_X1_read : x_CS M_X6_change M_X1_read 1 := ⟨(by decide +kernel : plainFor (x_y M_X1_read) = true), co_X1_read, in_X1, ⟨by decide +kernel, by decide +kernel⟩, by decide +kernel, by decide, by decide⟩
theorem cs_X7_enter_X9_sort : x_CS M_X7_enter M_X9_sort 0 := ⟨(by decide +kernel : plainFor (x_y M_X9_sort) = true), co_X9_sort, in_X9, ⟨by decide +kernel, by decide +kernel⟩, by decide +kernel, by decide, by decide⟩
set_option maxRecDepth 100000 in
theorem ml_X7_34 : Cond.methodLink RX7 34 (x_y M_X9_sort) ∈ x_w := x_in 982 rfl rfl
theorem cs_X7_enter_X9_pass : x_CS M_X7_enter M_X9_pass 0 := ⟨(by decide +kernel : plainFor (x_y M_X9_pass) = true), co_X9_pass, in_X9, ⟨by decide +kernel, by decide +kernel⟩, by decide +kernel, by decide, by decide⟩
set_option maxRecDepth 100000 in
theorem ml_X7_43 : Cond.methodLink RX7 43 (x_y M_X9_pass) ∈ x_w := x_in 905 rfl rfl
theorem cs_X7_leave_X9_take : x_CS M_X7_leave M_X9_take 1 := ⟨(by decide +kernel : plainFor (x_y M_X9_take) = true), co_X9_take, in_X9, ⟨by decide +kernel, by decide +kernel⟩, by decide +kernel, by decide, by decide⟩
set_option maxRecDepth 100000 in
theorem ml_X7_46 : Cond.methodLink RX7 46 (x_y M_X9_take) ∈ x_w := x_in 938 rfl rfl
theorem cs_X7_openBlock_X7_enter : x_CS M_X7_openBlock M_X7_enter 1 := ⟨(by decide +kernel : plainFor (x_y M_X7_enter) = true), co_X7_enter, in_X7, ⟨by decide +kernel, by decide +kernel⟩, by decide +kernel, by decide, by decide⟩
set_option maxRecDepth 100000 in
theorem ml_X7_50 : Cond.methodLink RX7 50 (x_y M_X7_enter) ∈ x_w := x_in 1026 rfl rfl
theorem cs_X7_closeBlock_X7_leave : x_CS M_X7_closeBlock M_X7_leave 1 := ⟨(by decide +kernel : plainFor (x_y M_X7_leave) = true), co_X7_leave, in_X7, ⟨by decide +kernel, by decide +kernel⟩, by decide +kernel, by decide, by decide⟩
set_option maxRecDepth 100000 in
theorem ml_X7_53 : Cond.methodLink RX7 53 (x_y M_X7_leave) ∈ x_w := x_in 1044 rfl rfl
theorem cs_X7_takeKind_X9_name : x_CS M_X7_takeKind M_X9_name 0 := ⟨(by decide +kernel : plainFor (x_y M_X9_name) = true), co_X9_name, in_X9, ⟨by decide +kernel, by decide +kernel⟩, by decide +kernel, by decide, by decide⟩
set_option maxRecDepth 100000 in
theorem ml_X7_56 : Cond.methodLink RX7 56 (x_y M_X9_name) ∈ x_w := x_in 901 rfl rfl
theorem cs_X7_takeKind_X3_kind : x_CS M_X7_takeKind M_X3_kind 1 := ⟨(by decide +kernel : plainFor (x_y M_X3_kind) = true), co_X3_kind, in_X3, ⟨by decide +kernel, by decide +kernel⟩, by decide +kernel, by decide, by decide⟩
set_option maxRecDepth 100000 in
theorem ml_X7_60 : Cond.methodLink RX7 60 (x_y M_X3_kind) ∈ x_w := x_in 902 rfl rfl
theorem cs_X7_takeKind_X9_pass : x_CS M_X7_takeKind M_X9_pass 0 := ⟨(by decide +kernel : plainFor (x_y M_X9_pass) = true), co_X9_pass, in_X9, ⟨by decide +kernel, by decide +kernel⟩, by decide +kernel, by decide, by decide⟩
theorem cs_X7_takeField_X9_name : x_CS M_X7_takeField M_X9_name 0 := ⟨(by decide +kernel : plainFor (x_y M_X9_name) = true), co_X9_name, in_X9, ⟨by decide +kernel, by decide +kernel⟩, by decide +kernel, by decide, by decide⟩
theorem cs_X7_takeField_X3_field : x_CS M_X7_takeField M_X3_field 2 := ⟨(by decide +kernel : plainFor (x_y M_X3_field) = true), co_X3_field, in_X3, ⟨by decide +kernel, by decide +kernel⟩, by decide +kernel, by decide, by decide⟩
set_option maxRecDepth 100000 in
theorem ml_X7_66 : Cond.methodLink RX7 66 (x_y M_X3_field) ∈ x_w := x_in 968 rfl rfl
theorem cs_X7_takeField_X9_pass : x_CS M_X7_takeField M_X9_pass 0 := ⟨(by decide +kernel : plainFor (x_y M_X9_pass) = true), co_X9_pass, in_X9, ⟨by decide +kernel, by decide +kernel⟩, by decide +kernel, by decide, by decide⟩
theorem cs_X7_takeVariable_X9_name : x_CS M_X7_takeVariable M_X9_name 0 := ⟨(by decide +kernel : plainFor (x_y M_X9_name) = true), co_X9_name, in_X9, ⟨by decide +kernel, by decide +kernel⟩, by decide +kernel, by decide, by decide⟩
theorem cs_X7_takeVariable_X3_kind : x_CS M_X7_takeVariable M_X3_kind 1 := ⟨(by decide +kernel : plainFor (x_y M_X3_kind) = true), co_X3_kind, in_X3, ⟨by decide +kernel, by decide +kernel⟩, by decide +kernel, by decide, by decide⟩
theorem cs_X7_takeVariable_X3_variable : x_CS M_X7_takeVariable M_X3_variable 1 := ⟨(by decide +kernel : plainFor (x_y M_X3_variable) = true), co_X3_variable, in_X3, ⟨by decide +kernel, by decide +kernel⟩, by decide +kernel, by decide, by decide⟩
set_option maxRecDepth 100000 in
theorem ml_X7_70 : Cond.methodLink RX7 70 (x_y M_X3_variable) ∈ x_w := x_in 973 rfl rfl
theorem cs_X7_takeVariable_X3_addVariable : x_CS M_X7_takeVariable M_X3_addVariable 1 := ⟨(by decide +kernel : plainFor (x_y M_X3_addVariable) = true), co_X3_addVariable, in_X3, ⟨by decide +kernel, by decide +kernel⟩, by decide +kernel, by decide, by decide⟩
set_option maxRecDepth 100000 in
theorem ml_X7_73 : Cond.methodLink RX7 73 (x_y M_X3_addVariable) ∈ x_w := x_in 974 rfl rfl
set_option maxRecDepth 100000 in
theorem im_X3_addVariable : Cond.instanceMethod (x_y M_X3_addVariable) ∈ x_w := x_in 975 rfl rfl
set_option maxRecDepth 100000 in
theorem se_X3_addVariable : Cond.selects (x_y M_X3_addVariable).cls (x_y M_X3_addVariable) (x_y M_X3_addVariable) ∈ x_w := x_in 976 rfl rfl
theorem cs_X7_takeVariable_X9_pass : x_CS M_X7_takeVariable M_X9_pass 0 := ⟨(by decide +kernel : plainFor (x_y M_X9_pass) = true), co_X9_pass, in_X9, ⟨by decide +kernel, by decide +kernel⟩, by decide +kernel, by decide, by decide⟩
theorem cs_X7_cursor_X9_name : x_CS M_X7_cursor M_X9_name 0 := ⟨(by decide +kernel : plainFor (x_y M_X9_name) = true), co_X9_name, in_X9, ⟨by decide +kernel, by decide +kernel⟩, by decide +kernel, by decide, by decide⟩
theorem cs_X7_cursor_X3_kind : x_CS M_X7_cursor M_X3_kind 1 := ⟨(by decide +kernel : plainFor (x_y M_X3_kind) = true), co_X3_kind, in_X3, ⟨by decide +kernel, by decide +kernel⟩, by decide +kernel, by decide, by decide⟩
theorem cs_X9_init_J0_length_8abf5 : x_CS M_X9_init M_J0_length_8abf5 0 := ⟨(by decide +kernel : plainFor (x_y M_J0_length_8abf5) = true), co_J0_length_8abf5, in_J0, ⟨by decide +kernel, by decide +kernel⟩, by decide +kernel, by decide, by decide⟩
set_option maxRecDepth 100000 in
theorem ml_X9_31 : Cond.methodLink RX9 31 (x_y M_J0_length_8abf5) ∈ x_w := x_in 141 rfl rfl
set_option maxRecDepth 100000 in
theorem im_J0_length_8abf5 : Cond.instanceMethod (x_y M_J0_length_8abf5) ∈ x_w := x_in 142 rfl rfl
set_option maxRecDepth 100000 in
theorem se_J0_length_8abf5 : Cond.selects (x_y M_J0_length_8abf5).cls (x_y M_J0_length_8abf5) (x_y M_J0_length_8abf5) ∈ x_w := x_in 143 rfl rfl
theorem cs_X9_init_J0_charAt_5068e : x_CS M_X9_init M_J0_charAt_5068e 1 := ⟨(by decide +kernel : plainFor (x_y M_J0_charAt_5068e) = true), co_J0_charAt_5068e, in_J0, ⟨by decide +kernel, by decide +kernel⟩, by decide +kernel, by decide, by decide⟩
set_option maxRecDepth 100000 in
theorem ml_X9_37 : Cond.methodLink RX9 37 (x_y M_J0_charAt_5068e) ∈ x_w := x_in 151 rfl rfl
set_option maxRecDepth 100000 in
theorem im_J0_charAt_5068e : Cond.instanceMethod (x_y M_J0_charAt_5068e) ∈ x_w := x_in 152 rfl rfl
set_option maxRecDepth 100000 in
theorem se_J0_charAt_5068e : Cond.selects (x_y M_J0_charAt_5068e).cls (x_y M_J0_charAt_5068e) (x_y M_J0_charAt_5068e) ∈ x_w := x_in 153 rfl rfl
theorem cs_X9_init_X9_longer : x_CS M_X9_init M_X9_longer 2 := ⟨(by decide +kernel : plainFor (x_y M_X9_longer) = true), co_X9_longer, in_X9, ⟨by decide +kernel, by decide +kernel⟩, by decide +kernel, by decide, by decide⟩
set_option maxRecDepth 100000 in
theorem ml_X9_41 : Cond.methodLink RX9 41 (x_y M_X9_longer) ∈ x_w := x_in 189 rfl rfl
set_option maxRecDepth 100000 in
theorem st_X9_longer : Cond.static (x_y M_X9_longer) ∈ x_w := x_in 190 rfl rfl
theorem cs_X9_scan_X9_behindBlanks : x_CS M_X9_scan M_X9_behindBlanks 1 := ⟨(by decide +kernel : plainFor (x_y M_X9_behindBlanks) = true), co_X9_behindBlanks, in_X9, ⟨by decide +kernel, by decide +kernel⟩, by decide +kernel, by decide, by decide⟩
set_option maxRecDepth 100000 in
theorem ml_X9_51 : Cond.methodLink RX9 51 (x_y M_X9_behindBlanks) ∈ x_w := x_in 723 rfl rfl
set_option maxRecDepth 100000 in
theorem im_X9_behindBlanks : Cond.instanceMethod (x_y M_X9_behindBlanks) ∈ x_w := x_in 725 rfl rfl
set_option maxRecDepth 100000 in
theorem se_X9_behindBlanks : Cond.selects (x_y M_X9_behindBlanks).cls (x_y M_X9_behindBlanks) (x_y M_X9_behindBlanks) ∈ x_w := x_in 1 rfl rfl
theorem cs_X9_scan_X9_cut : x_CS M_X9_scan M_X9_cut 1 := ⟨(by decide +kernel : plainFor (x_y M_X9_cut) = true), co_X9_cut, in_X9, ⟨by decide +kernel, by decide +kernel⟩, by decide +kernel, by decide, by decide⟩
set_option maxRecDepth 100000 in
theorem ml_X9_58 : Cond.methodLink RX9 58 (x_y M_X9_cut) ∈ x_w := x_in 727 rfl rfl
set_option maxRecDepth 100000 in
theorem im_X9_cut : Cond.instanceMethod (x_y M_X9_cut) ∈ x_w := x_in 729 rfl rfl
set_option maxRecDepth 100000 in
theorem se_X9_cut : Cond.selects (x_y M_X9_cut).cls (x_y M_X9_cut) (x_y M_X9_cut) ∈ x_w := x_in 2 rfl rfl
theorem cs_X9_cut_X9_isLetter : x_CS M_X9_cut M_X9_isLetter 1 := ⟨(by decide +kernel : plainFor (x_y M_X9_isLetter) = true), co_X9_isLetter, in_X9, ⟨by decide +kernel, by decide +kernel⟩, by decide +kernel, by decide, by decide⟩
set_option maxRecDepth 100000 in
theorem ml_X9_64 : Cond.methodLink RX9 64 (x_y M_X9_isLetter) ∈ x_w := x_in 731 rfl rfl
set_option maxRecDepth 100000 in
theorem st_X9_isLetter : Cond.static (x_y M_X9_isLetter) ∈ x_w := x_in 732 rfl rfl
theorem cs_X9_cut_X9_cutName : x_CS M_X9_cut M_X9_cutName 1 := ⟨(by decide +kernel : plainFor (x_y M_X9_cutName) = true), co_X9_cutName, in_X9, ⟨by decide +kernel, by decide +kernel⟩, by decide +kernel, by decide, by decide⟩
set_option maxRecDepth 100000 in
theorem ml_X9_68 : Cond.methodLink RX9 68 (x_y M_X9_cutName) ∈ x_w := x_in 734 rfl rfl
set_option maxRecDepth 100000 in
theorem im_X9_cutName : Cond.instanceMethod (x_y M_X9_cutName) ∈ x_w := x_in 736 rfl rfl
set_option maxRecDepth 100000 in
theorem se_X9_cutName : Cond.selects (x_y M_X9_cutName).cls (x_y M_X9_cutName) (x_y M_X9_cutName) ∈ x_w := x_in 3 rfl rfl
theorem cs_X9_cut_X9_isDigit : x_CS M_X9_cut M_X9_isDigit 1 := ⟨(by decide +kernel : plainFor (x_y M_X9_isDigit) = true), co_X9_isDigit, in_X9, ⟨by decide +kernel, by decide +kernel⟩, by decide +kernel, by decide, by decide⟩
set_option maxRecDepth 100000 in
theorem ml_X9_71 : Cond.methodLink RX9 71 (x_y M_X9_isDigit) ∈ x_w := x_in 742 rfl rfl
set_option maxRecDepth 100000 in
theorem st_X9_isDigit : Cond.static (x_y M_X9_isDigit) ∈ x_w := x_in 743 rfl rfl
theorem cs_X9_cut_X9_cutNumber : x_CS M_X9_cut M_X9_cutNumber 1 := ⟨(by decide +kernel : plainFor (x_y M_X9_cutNumber) = true), co_X9_cutNumber, in_X9, ⟨by decide +kernel, by decide +kernel⟩, by decide +kernel, by decide, by decide⟩
set_option maxRecDepth 100000 in
theorem ml_X9_74 : Cond.methodLink RX9 74 (x_y M_X9_cutNumber) ∈ x_w := x_in 745 rfl rfl
set_option maxRecDepth 100000 in
theorem im_X9_cutNumber : Cond.instanceMethod (x_y M_X9_cutNumber) ∈ x_w := x_in 747 rfl rfl
set_option maxRecDepth 100000 in
theorem se_X9_cutNumber : Cond.selects (x_y M_X9_cutNumber).cls (x_y M_X9_cutNumber) (x_y M_X9_cutNumber) ∈ x_w := x_in 5 rfl rfl
theorem cs_X9_cut_X9_cutSign : x_CS M_X9_cut M_X9_cutSign 1 := ⟨(by decide +kernel : plainFor (x_y M_X9_cutSign) = true), co_X9_cutSign, in_X9, ⟨by decide +kernel, by decide +kernel⟩, by decide +kernel, by decide, by decide⟩
set_option maxRecDepth 100000 in
theorem ml_X9_77 : Cond.methodLink RX9 77 (x_y M_X9_cutSign) ∈ x_w := x_in 756 rfl rfl
set_option maxRecDepth 100000 in
theorem im_X9_cutSign : Cond.instanceMethod (x_y M_X9_cutSign) ∈ x_w := x_in 758 rfl rfl
set_option maxRecDepth 100000 in
theorem se_X9_cutSign : Cond.selects (x_y M_X9_cutSign).cls (x_y M_X9_cutSign) (x_y M_X9_cutSign) ∈ x_w := x_in 6 rfl rfl
theorem cs_X9_cutName_X9_isLetter : x_CS M_X9_cutName M_X9_isLetter 1 := ⟨(by decide +kernel : plainFor (x_y M_X9_isLetter) = true), co_X9_isLetter, in_X9, ⟨by decide +kernel, by decide +kernel⟩, by decide +kernel, by decide, by decide⟩
theorem cs_X9_cutName_X9_longer : x_CS M_X9_cutName M_X9_longer 2 := ⟨(by decide +kernel : plainFor (x_y M_X9_longer) = true), co_X9_longer, in_X9, ⟨by decide +kernel, by decide +kernel⟩, by decide +kernel, by decide, by decide⟩
theorem cs_X9_cutName_X9_wordOrName : x_CS M_X9_cutName M_X9_wordOrName 1 := ⟨(by decide +kernel : plainFor (x_y M_X9_wordOrName) = true), co_X9_wordOrName, in_X9, ⟨by decide +kernel, by decide +kernel⟩, by decide +kernel, by decide, by decide⟩
set_option maxRecDepth 100000 in
theorem ml_X9_80 : Cond.methodLink RX9 80 (x_y M_X9_wordOrName) ∈ x_w := x_in 738 rfl rfl
set_option maxRecDepth 100000 in
theorem im_X9_wordOrName : Cond.instanceMethod (x_y M_X9_wordOrName) ∈ x_w := x_in 740 rfl rfl
set_option maxRecDepth 100000 in
theorem se_X9_wordOrName : Cond.selects (x_y M_X9_wordOrName).cls (x_y M_X9_wordOrName) (x_y M_X9_wordOrName) ∈ x_w := x_in 4 rfl rfl
theorem cs_X9_cutNumber_X9_isDigit : x_CS M_X9_cutNumber M_X9_isDigit 1 := ⟨(by decide +kernel : plainFor (x_y M_X9_isDigit) = true), co_X9_isDigit, in_X9, ⟨by decide +kernel, by decide +kernel⟩, by decide +kernel, by decide, by decide⟩
theorem cs_X9_cutNumber_J9_min_f86c9 : x_CS M_X9_cutNumber M_J9_min_f86c9 2 := ⟨(by decide +kernel : plainFor (x_y M_J9_min_f86c9) = true), co_J9_min_f86c9, in_J9, ⟨by decide +kernel, by decide +kernel⟩, by decide +kernel, by decide, by decide⟩
set_option maxRecDepth 100000 in
theorem ml_X9_90 : Cond.methodLink RX9 90 (x_y M_J9_min_f86c9) ∈ x_w := x_in 752 rfl rfl
set_option maxRecDepth 100000 in
theorem st_J9_min_f86c9 : Cond.static (x_y M_J9_min_f86c9) ∈ x_w := x_in 753 rfl rfl
theorem cs_X9_cutSign_J0_indexOf_0f7a4 : x_CS M_X9_cutSign M_J0_indexOf_0f7a4 1 := ⟨(by decide +kernel : plainFor (x_y M_J0_indexOf_0f7a4) = true), co_J0_indexOf_0f7a4, in_J0, ⟨by decide +kernel, by decide +kernel⟩, by decide +kernel, by decide, by decide⟩
set_option maxRecDepth 100000 in
theorem ml_X9_100 : Cond.methodLink RX9 100 (x_y M_J0_indexOf_0f7a4) ∈ x_w := x_in 761 rfl rfl
set_option maxRecDepth 100000 in
theorem im_J0_indexOf_0f7a4 : Cond.instanceMethod (x_y M_J0_indexOf_0f7a4) ∈ x_w := x_in 762 rfl rfl
set_option maxRecDepth 100000 in
theorem se_J0_indexOf_0f7a4 : Cond.selects (x_y M_J0_indexOf_0f7a4).cls (x_y M_J0_indexOf_0f7a4) (x_y M_J0_indexOf_0f7a4) ∈ x_w := x_in 763 rfl rfl
theorem cs_X10_add_X10_taken : x_CS M_X10_add M_X10_taken 0 := ⟨(by decide +kernel : plainFor (x_y M_X10_taken) = true), co_X10_taken, in_X10, ⟨by decide +kernel, by decide +kernel⟩, by decide +kernel, by decide, by decide⟩
set_option maxRecDepth 100000 in
theorem ml_X10_24 : Cond.methodLink RX10 24 (x_y M_X10_taken) ∈ x_w := x_in 1110 rfl rfl
set_option maxRecDepth 100000 in
theorem im_X10_taken : Cond.instanceMethod (x_y M_X10_taken) ∈ x_w := x_in 607 rfl rfl
set_option maxRecDepth 100000 in
theorem se_X10_taken : Cond.selects (x_y M_X10_taken).cls (x_y M_X10_taken) (x_y M_X10_taken) ∈ x_w := x_in 608 rfl rfl
theorem cs_X10_add_J13_numberOfTrailingZeros_95d88 : x_CS M_X10_add M_J13_numberOfTrailingZeros_95d88 1 := ⟨(by decide +kernel : plainFor (x_y M_J13_numberOfTrailingZeros_95d88) = true), co_J13_numberOfTrailingZeros_95d88, in_J13, ⟨by decide +kernel, by decide +kernel⟩, by decide +kernel, by decide, by decide⟩
set_option maxRecDepth 100000 in
theorem ml_X10_30 : Cond.methodLink RX10 30 (x_y M_J13_numberOfTrailingZeros_95d88) ∈ x_w := x_in 1112 rfl rfl
set_option maxRecDepth 100000 in
theorem st_J13_numberOfTrailingZeros_95d88 : Cond.static (x_y M_J13_numberOfTrailingZeros_95d88) ∈ x_w := x_in 1113 rfl rfl
theorem cs_X11_init_X9_init : x_CS M_X11_init M_X9_init 0 := ⟨(by decide +kernel : plainFor (x_y M_X9_init) = true), co_X9_init, in_X9, ⟨by decide +kernel, by decide +kernel⟩, by decide +kernel, by decide, by decide⟩
set_option maxRecDepth 100000 in
theorem ml_X11_9 : Cond.methodLink RX11 9 (x_y M_X9_init) ∈ x_w := x_in 136 rfl rfl
set_option maxRecDepth 100000 in
theorem im_X9_init : Cond.instanceMethod (x_y M_X9_init) ∈ x_w := x_in 137 rfl rfl
theorem cs_X11_init_X3_init : x_CS M_X11_init M_X3_init 0 := ⟨(by decide +kernel : plainFor (x_y M_X3_init) = true), co_X3_init, in_X3, ⟨by decide +kernel, by decide +kernel⟩, by decide +kernel, by decide, by decide⟩
set_option maxRecDepth 100000 in
theorem ml_X11_18 : Cond.methodLinkNest RX11 18 (x_y M_X3_init) "ArrayRecords" ∈ x_w := x_in 226 rfl rfl
set_option maxRecDepth 100000 in
theorem im_X3_init : Cond.instanceMethod (x_y M_X3_init) ∈ x_w := x_in 227 rfl rfl
theorem cs_X11_init_X10_init : x_CS M_X11_init M_X10_init 0 := ⟨(by decide +kernel : plainFor (x_y M_X10_init) = true), co_X10_init, in_X10, ⟨by decide +kernel, by decide +kernel⟩, by decide +kernel, by decide, by decide⟩
set_option maxRecDepth 100000 in
theorem ml_X11_25 : Cond.methodLinkNest RX11 25 (x_y M_X10_init) "ArrayRecords" ∈ x_w := x_in 265 rfl rfl
set_option maxRecDepth 100000 in
theorem im_X10_init : Cond.instanceMethod (x_y M_X10_init) ∈ x_w := x_in 266 rfl rfl
theorem cs_X11_init_X5_init : x_CS M_X11_init M_X5_init 0 := ⟨(by decide +kernel : plainFor (x_y M_X5_init) = true), co_X5_init, in_X5, ⟨by decide +kernel, by decide +kernel⟩, by decide +kernel, by decide, by decide⟩
set_option maxRecDepth 100000 in
theorem ml_X11_32 : Cond.methodLink RX11 32 (x_y M_X5_init) ∈ x_w := x_in 290 rfl rfl
set_option maxRecDepth 100000 in
theorem im_X5_init : Cond.instanceMethod (x_y M_X5_init) ∈ x_w := x_in 291 rfl rfl
theorem cs_X11_init_X6_init : x_CS M_X11_init M_X6_init 3 := ⟨(by decide +kernel : plainFor (x_y M_X6_init) = true), co_X6_init, in_X6, ⟨by decide +kernel, by decide +kernel⟩, by decide +kernel, by decide, by decide⟩
set_option maxRecDepth 100000 in
theorem ml_X11_39 : Cond.methodLink RX11 39 (x_y M_X6_init) ∈ x_w := x_in 418 rfl rfl
set_option maxRecDepth 100000 in
theorem im_X6_init : Cond.instanceMethod (x_y M_X6_init) ∈ x_w := x_in 419 rfl rfl
theorem cs_X11_init_X2_init : x_CS M_X11_init M_X2_init 3 := ⟨(by decide +kernel : plainFor (x_y M_X2_init) = true), co_X2_init, in_X2, ⟨by decide +kernel, by decide +kernel⟩, by decide +kernel, by decide, by decide⟩
set_option maxRecDepth 100000 in
theorem ml_X11_48 : Cond.methodLink RX11 48 (x_y M_X2_init) ∈ x_w := x_in 500 rfl rfl
set_option maxRecDepth 100000 in
theorem im_X2_init : Cond.instanceMethod (x_y M_X2_init) ∈ x_w := x_in 501 rfl rfl
