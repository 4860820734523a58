/-! constructors -/
set_option maxRecDepth 100000 in
set_option maxHeartbeats 4000000 in
theorem ct_X3_init {l : Launch} {w : xW} {g X : Nat → xE} {h : xH} {sl : Nat} (hc : CI w g h 8 sl X) (hX : X 7 = .inr (3, [.null, .null, .null, .null, .null, .int 0, .int 0, .int 0, .int 0])) : XE l w M_X3_init 0 (lv_args 0 [.ref (w.2.1 + 7)]) [] h (fun o => o.1 = .inl none ∧ CR w g 29 (sl + 148) 7 X o.2) := by
  show XE l w M_X3_init 0 [(0, .ref (w.2.1 + 7))] [] h _
  refine XE_l (pc' := 7) (ls' := [(0, .ref (w.2.1 + 7))]) (st' := [.int 8, .ref (w.2.1 + 7)]) (fun _ k => e_aload_n dX3_init_0 0 rfl (e_objInit dX3_init_1 (x_in 229 rfl rfl) (x_in 132 rfl rfl) (x_in 133 (by decide +kernel) (by decide +kernel)) (by decide) (Nat.le_of_ble_eq_true rfl) (e_aload_n dX3_init_4 0 rfl (e_bipush (v := 8) dX3_init_5 (by decide) (k))))) ?_
  refine XE_newa (n := 8) (N := 8) hc dX3_init_7 (x_in 220 rfl rfl) (fun C z => by cases z) (by decide) rfl (by decide) (fun h1 hc1 => ?_)
  show XE l w M_X3_init 9 [(0, .ref (w.2.1 + 7))] [.ref (w.2.1 + 8), .ref (w.2.1 + 7)] _ _
  refine XE_putF (q := 7) (k := 0) hc1 (by decide) hX xc_3 dX3_init_9 (x_in 234 (by decide +kernel) (by decide +kernel)) (by decide) (by decide) rfl rfl rfl rfl rfl (fun h2 hc2 => ?_)
  show XE l w M_X3_init 12 [(0, .ref (w.2.1 + 7))] [] _ _
  refine XE_l (pc' := 15) (ls' := [(0, .ref (w.2.1 + 7))]) (st' := [.int 8, .ref (w.2.1 + 7)]) (fun _ k => e_aload_n dX3_init_12 0 rfl (e_bipush (v := 8) dX3_init_13 (by decide) (k))) ?_
  refine XE_newa (n := 9) (N := 8) hc2 dX3_init_15 (x_in 222 rfl rfl) (fun C z => by cases z) (by decide) rfl (by decide) (fun h3 hc3 => ?_)
  show XE l w M_X3_init 17 [(0, .ref (w.2.1 + 7))] [.ref (w.2.1 + 9), .ref (w.2.1 + 7)] _ _
  refine XE_putF (q := 7) (k := 1) hc3 (by decide) rfl xc_3 dX3_init_17 (x_in 235 (by decide +kernel) (by decide +kernel)) (by decide) (by decide) rfl rfl rfl rfl rfl (fun h4 hc4 => ?_)
  show XE l w M_X3_init 20 [(0, .ref (w.2.1 + 7))] [] _ _
  refine XE_l (pc' := 25) (ls' := [(0, .ref (w.2.1 + 7))]) (st' := [.int 6, .int 8, .ref (w.2.1 + 7)]) (fun _ k => e_aload_n dX3_init_20 0 rfl (e_bipush (v := 8) dX3_init_21 (by decide) (e_bipush (v := 6) dX3_init_23 (by decide) (k)))) ?_
  refine XE_mna (ty := .long) (n := 10) (N := 8) (K := 6) hc4 dX3_init_25 (x_in 230 rfl rfl) (x_in 231 rfl rfl) (x_in 220 rfl rfl) (fun C z => by cases z) (by decide) (by decide) rfl rfl (by decide) (by decide) (by decide) rfl rfl (fun h5 hc5 => ?_)
  show XE l w M_X3_init 29 [(0, .ref (w.2.1 + 7))] [.ref (w.2.1 + 10), .ref (w.2.1 + 7)] _ _
  refine XE_putF (q := 7) (k := 2) hc5 (by decide) rfl xc_3 dX3_init_29 (x_in 236 (by decide +kernel) (by decide +kernel)) (by decide) (by decide) rfl rfl rfl rfl rfl (fun h6 hc6 => ?_)
  show XE l w M_X3_init 32 [(0, .ref (w.2.1 + 7))] [] _ _
  refine XE_l (pc' := 37) (ls' := [(0, .ref (w.2.1 + 7))]) (st' := [.int 6, .int 8, .ref (w.2.1 + 7)]) (fun _ k => e_aload_n dX3_init_32 0 rfl (e_bipush (v := 8) dX3_init_33 (by decide) (e_bipush (v := 6) dX3_init_35 (by decide) (k)))) ?_
  refine XE_mna (ty := .int) (n := 19) (N := 8) (K := 6) hc6 dX3_init_37 (x_in 232 rfl rfl) (x_in 233 rfl rfl) (x_in 222 rfl rfl) (fun C z => by cases z) (by decide) (by decide) rfl rfl (by decide) (by decide) (by decide) rfl rfl (fun h7 hc7 => ?_)
  show XE l w M_X3_init 41 [(0, .ref (w.2.1 + 7))] [.ref (w.2.1 + 19), .ref (w.2.1 + 7)] _ _
  refine XE_putF (q := 7) (k := 3) hc7 (by decide) rfl xc_3 dX3_init_41 (x_in 237 (by decide +kernel) (by decide +kernel)) (by decide) (by decide) rfl rfl rfl rfl rfl (fun h8 hc8 => ?_)
  show XE l w M_X3_init 44 [(0, .ref (w.2.1 + 7))] [] _ _
  refine XE_l (pc' := 47) (ls' := [(0, .ref (w.2.1 + 7))]) (st' := [.int 20, .ref (w.2.1 + 7)]) (fun _ k => e_aload_n dX3_init_44 0 rfl (e_bipush (v := 20) dX3_init_45 (by decide) (k))) ?_
  refine XE_newa (n := 28) (N := 20) hc8 dX3_init_47 (x_in 220 rfl rfl) (fun C z => by cases z) (by decide) rfl (by decide) (fun h9 hc9 => ?_)
  show XE l w M_X3_init 49 [(0, .ref (w.2.1 + 7))] [.ref (w.2.1 + 28), .ref (w.2.1 + 7)] _ _
  refine XE_putF (q := 7) (k := 4) hc9 (by decide) rfl xc_3 dX3_init_49 (x_in 239 (by decide +kernel) (by decide +kernel)) (by decide) (by decide) rfl rfl rfl rfl rfl (fun h10 hc10 => ?_)
  show XE l w M_X3_init 52 [(0, .ref (w.2.1 + 7))] [] _ _
  refine XE_ret dX3_init_52 rfl ⟨rfl, _, CI_s hc10 (by omega), ?_, fun k hk => ?_⟩
  · exact fa_s rfl (fa_s rfl (fa_s rfl (fa_s rfl (fa_s rfl (fa_s rfl (fa_s rfl (fa_s rfl (fa_s rfl (fa_s rfl (fa_s rfl (fa_s rfl (fa_s rfl (fa_s rfl (fa_s rfl (fa_s rfl (fa_s rfl (fa_s rfl (fa_s rfl (fa_s rfl (fa_s rfl (fa_s rfl (fa_b (by decide)))))))))))))))))))))))
  · simp (disch := omega) only [uX_n, mX_n]
set_option maxRecDepth 100000 in
set_option maxHeartbeats 4000000 in
theorem ct_X10_init {l : Launch} {w : xW} {g X : Nat → xE} {h : xH} {sl : Nat} (hc : CI w g h 30 sl X) (hX : X 29 = .inr (10, [.null, .null, .null, .int 0])) : XE l w M_X10_init 0 (lv_args 0 [.ref (w.2.1 + 29)]) [] h (fun o => o.1 = .inl none ∧ CR w g 97 (sl + 520) 29 X o.2) := by
  show XE l w M_X10_init 0 [(0, .ref (w.2.1 + 29))] [] h _
  refine XE_l (pc' := 7) (ls' := [(0, .ref (w.2.1 + 29))]) (st' := [.int 8, .ref (w.2.1 + 29)]) (fun _ k => e_aload_n dX10_init_0 0 rfl (e_objInit dX10_init_1 (x_in 268 rfl rfl) (x_in 132 rfl rfl) (x_in 133 (by decide +kernel) (by decide +kernel)) (by decide) (Nat.le_of_ble_eq_true rfl) (e_aload_n dX10_init_4 0 rfl (e_bipush (v := 8) dX10_init_5 (by decide) (k))))) ?_
  refine XE_newa (n := 30) (N := 8) hc dX10_init_7 (x_in 220 rfl rfl) (fun C z => by cases z) (by decide) rfl (by decide) (fun h1 hc1 => ?_)
  show XE l w M_X10_init 9 [(0, .ref (w.2.1 + 29))] [.ref (w.2.1 + 30), .ref (w.2.1 + 29)] _ _
  refine XE_putF (q := 29) (k := 0) hc1 (by decide) hX xc_10 dX10_init_9 (x_in 270 (by decide +kernel) (by decide +kernel)) (by decide) (by decide) rfl rfl rfl rfl rfl (fun h2 hc2 => ?_)
  show XE l w M_X10_init 12 [(0, .ref (w.2.1 + 29))] [] _ _
  refine XE_l (pc' := 17) (ls' := [(0, .ref (w.2.1 + 29))]) (st' := [.int 6, .int 64, .ref (w.2.1 + 29)]) (fun _ k => e_aload_n dX10_init_12 0 rfl (e_bipush (v := 64) dX10_init_13 (by decide) (e_bipush (v := 6) dX10_init_15 (by decide) (k)))) ?_
  refine XE_mna (ty := .int) (n := 31) (N := 64) (K := 6) hc2 dX10_init_17 (x_in 269 rfl rfl) (x_in 233 rfl rfl) (x_in 222 rfl rfl) (fun C z => by cases z) (by decide) (by decide) rfl rfl (by decide) (by decide) (by decide) rfl rfl (fun h3 hc3 => ?_)
  show XE l w M_X10_init 21 [(0, .ref (w.2.1 + 29))] [.ref (w.2.1 + 31), .ref (w.2.1 + 29)] _ _
  refine XE_putF (q := 29) (k := 1) hc3 (by decide) rfl xc_10 dX10_init_21 (x_in 272 (by decide +kernel) (by decide +kernel)) (by decide) (by decide) rfl rfl rfl rfl rfl (fun h4 hc4 => ?_)
  show XE l w M_X10_init 24 [(0, .ref (w.2.1 + 29))] [] _ _
  refine XE_l (pc' := 27) (ls' := [(0, .ref (w.2.1 + 29))]) (st' := [.int 64, .ref (w.2.1 + 29)]) (fun _ k => e_aload_n dX10_init_24 0 rfl (e_bipush (v := 64) dX10_init_25 (by decide) (k))) ?_
  refine XE_newa (n := 96) (N := 64) hc4 dX10_init_27 (x_in 222 rfl rfl) (fun C z => by cases z) (by decide) rfl (by decide) (fun h5 hc5 => ?_)
  show XE l w M_X10_init 29 [(0, .ref (w.2.1 + 29))] [.ref (w.2.1 + 96), .ref (w.2.1 + 29)] _ _
  refine XE_putF (q := 29) (k := 2) hc5 (by decide) rfl xc_10 dX10_init_29 (x_in 276 (by decide +kernel) (by decide +kernel)) (by decide) (by decide) rfl rfl rfl rfl rfl (fun h6 hc6 => ?_)
  show XE l w M_X10_init 32 [(0, .ref (w.2.1 + 29))] [] _ _
  refine XE_ret dX10_init_32 rfl ⟨rfl, _, CI_s hc6 (by omega), ?_, fun k hk => ?_⟩
  · exact fa_s rfl (fa_s rfl (fa_s rfl (fa_s rfl (fa_s rfl (fa_s rfl (fa_s rfl (fa_s rfl (fa_s rfl (fa_s rfl (fa_s rfl (fa_s rfl (fa_s rfl (fa_s rfl (fa_s rfl (fa_s rfl (fa_s rfl (fa_s rfl (fa_s rfl (fa_s rfl (fa_s rfl (fa_s rfl (fa_s rfl (fa_s rfl (fa_s rfl (fa_s rfl (fa_s rfl (fa_s rfl (fa_s rfl (fa_s rfl (fa_s rfl (fa_s rfl (fa_s rfl (fa_s rfl (fa_s rfl (fa_s rfl (fa_s rfl (fa_s rfl (fa_s rfl (fa_s rfl (fa_s rfl (fa_s rfl (fa_s rfl (fa_s rfl (fa_s rfl (fa_s rfl (fa_s rfl (fa_s rfl (fa_s rfl (fa_s rfl (fa_s rfl (fa_s rfl (fa_s rfl (fa_s rfl (fa_s rfl (fa_s rfl (fa_s rfl (fa_s rfl (fa_s rfl (fa_s rfl (fa_s rfl (fa_s rfl (fa_s rfl (fa_s rfl (fa_s rfl (fa_s rfl (fa_s rfl (fa_s rfl (fa_b (by decide)))))))))))))))))))))))))))))))))))))))))))))))))))))))))))))))))))))
  · simp (disch := omega) only [uX_n, mX_n]
set_option maxRecDepth 100000 in
set_option maxHeartbeats 4000000 in
theorem ct_X7_init {l : Launch} {w : xW} {g X : Nat → xE} {h : xH} {sl : Nat} (hc : CI w g h 406 sl X) (hX : X 405 = .inr (7, [.null, .null, .null, .null, .int 0, .int 0])) : XE l w M_X7_init 0 (lv_args 0 [.ref (w.2.1 + 405), .ref (w.2.1 + 1), .ref (w.2.1 + 7), .ref (w.2.1 + 97)]) [] h (fun o => o.1 = .inl none ∧ CR w g 407 (sl + 10) 405 X o.2) := by
  show XE l w M_X7_init 0 [(0, .ref (w.2.1 + 405)), (1, .ref (w.2.1 + 1)), (2, .ref (w.2.1 + 7)), (3, .ref (w.2.1 + 97))] [] h _
  refine XE_l (pc' := 7) (ls' := [(0, .ref (w.2.1 + 405)), (1, .ref (w.2.1 + 1)), (2, .ref (w.2.1 + 7)), (3, .ref (w.2.1 + 97))]) (st' := [.int 10, .ref (w.2.1 + 405)]) (fun _ k => e_aload_n dX7_init_0 0 rfl (e_objInit dX7_init_1 (x_in 427 rfl rfl) (x_in 132 rfl rfl) (x_in 133 (by decide +kernel) (by decide +kernel)) (by decide) (Nat.le_of_ble_eq_true rfl) (e_aload_n dX7_init_4 0 rfl (e_bipush (v := 10) dX7_init_5 (by decide) (k))))) ?_
  refine XE_newa (n := 406) (N := 10) hc dX7_init_7 (x_in 222 rfl rfl) (fun C z => by cases z) (by decide) rfl (by decide) (fun h1 hc1 => ?_)
  show XE l w M_X7_init 9 [(0, .ref (w.2.1 + 405)), (1, .ref (w.2.1 + 1)), (2, .ref (w.2.1 + 7)), (3, .ref (w.2.1 + 97))] [.ref (w.2.1 + 406), .ref (w.2.1 + 405)] _ _
  refine XE_putF (q := 405) (k := 3) hc1 (by decide) hX xc_7 dX7_init_9 (x_in 431 (by decide +kernel) (by decide +kernel)) (by decide) (by decide) rfl rfl rfl rfl rfl (fun h2 hc2 => ?_)
  show XE l w M_X7_init 12 [(0, .ref (w.2.1 + 405)), (1, .ref (w.2.1 + 1)), (2, .ref (w.2.1 + 7)), (3, .ref (w.2.1 + 97))] [] _ _
  refine XE_l (pc' := 14) (ls' := [(0, .ref (w.2.1 + 405)), (1, .ref (w.2.1 + 1)), (2, .ref (w.2.1 + 7)), (3, .ref (w.2.1 + 97))]) (st' := [.ref (w.2.1 + 1), .ref (w.2.1 + 405)]) (fun _ k => e_aload_n dX7_init_12 0 rfl (e_aload_n dX7_init_13 1 rfl (k))) ?_
  refine XE_putF (q := 405) (k := 0) hc2 (by decide) rfl xc_7 dX7_init_14 (x_in 428 (by decide +kernel) (by decide +kernel)) (by decide) (by decide) rfl rfl rfl rfl rfl (fun h3 hc3 => ?_)
  show XE l w M_X7_init 17 [(0, .ref (w.2.1 + 405)), (1, .ref (w.2.1 + 1)), (2, .ref (w.2.1 + 7)), (3, .ref (w.2.1 + 97))] [] _ _
  refine XE_l (pc' := 19) (ls' := [(0, .ref (w.2.1 + 405)), (1, .ref (w.2.1 + 1)), (2, .ref (w.2.1 + 7)), (3, .ref (w.2.1 + 97))]) (st' := [.ref (w.2.1 + 7), .ref (w.2.1 + 405)]) (fun _ k => e_aload_n dX7_init_17 0 rfl (e_aload_n dX7_init_18 2 rfl (k))) ?_
  refine XE_putF (q := 405) (k := 1) hc3 (by decide) rfl xc_7 dX7_init_19 (x_in 429 (by decide +kernel) (by decide +kernel)) (by decide) (by decide) rfl rfl rfl rfl rfl (fun h4 hc4 => ?_)
  show XE l w M_X7_init 22 [(0, .ref (w.2.1 + 405)), (1, .ref (w.2.1 + 1)), (2, .ref (w.2.1 + 7)), (3, .ref (w.2.1 + 97))] [] _ _
  refine XE_l (pc' := 24) (ls' := [(0, .ref (w.2.1 + 405)), (1, .ref (w.2.1 + 1)), (2, .ref (w.2.1 + 7)), (3, .ref (w.2.1 + 97))]) (st' := [.ref (w.2.1 + 97), .ref (w.2.1 + 405)]) (fun _ k => e_aload_n dX7_init_22 0 rfl (e_aload_n dX7_init_23 3 rfl (k))) ?_
  refine XE_putF (q := 405) (k := 2) hc4 (by decide) rfl xc_7 dX7_init_24 (x_in 430 (by decide +kernel) (by decide +kernel)) (by decide) (by decide) rfl rfl rfl rfl rfl (fun h5 hc5 => ?_)
  show XE l w M_X7_init 27 [(0, .ref (w.2.1 + 405)), (1, .ref (w.2.1 + 1)), (2, .ref (w.2.1 + 7)), (3, .ref (w.2.1 + 97))] [] _ _
  refine XE_ret dX7_init_27 rfl ⟨rfl, _, CI_s hc5 (by omega), ?_, fun k hk => ?_⟩
  · exact fa_s rfl (fa_s rfl (fa_b (by decide)))
  · simp (disch := omega) only [uX_n, mX_n]
set_option maxRecDepth 100000 in
set_option maxHeartbeats 4000000 in
theorem ct_X1_init {l : Launch} {w : xW} {g X : Nat → xE} {h : xH} {sl : Nat} (hc : CI w g h 408 sl X) (hX : X 407 = .inr (1, [.null, .null, .null, .null, .null, .int 0, .int 0, .int 0, .int 0])) : XE l w M_X1_init 0 (lv_args 0 [.ref (w.2.1 + 407), .ref (w.2.1 + 1), .ref (w.2.1 + 7), .ref (w.2.1 + 97), .ref (w.2.1 + 405)]) [] h (fun o => o.1 = .inl none ∧ CR w g 409 (sl + 151) 407 X o.2) := by
  show XE l w M_X1_init 0 [(0, .ref (w.2.1 + 407)), (1, .ref (w.2.1 + 1)), (2, .ref (w.2.1 + 7)), (3, .ref (w.2.1 + 97)), (4, .ref (w.2.1 + 405))] [] h _
  refine XE_l (pc' := 8) (ls' := [(0, .ref (w.2.1 + 407)), (1, .ref (w.2.1 + 1)), (2, .ref (w.2.1 + 7)), (3, .ref (w.2.1 + 97)), (4, .ref (w.2.1 + 405))]) (st' := [.int 151, .ref (w.2.1 + 407)]) (fun _ k => e_aload_n dX1_init_0 0 rfl (e_objInit dX1_init_1 (x_in 453 rfl rfl) (x_in 132 rfl rfl) (x_in 133 (by decide +kernel) (by decide +kernel)) (by decide) (Nat.le_of_ble_eq_true rfl) (e_aload_n dX1_init_4 0 rfl (e_sipush (v := 151) dX1_init_5 (by decide) (k))))) ?_
  refine XE_newa (n := 408) (N := 151) hc dX1_init_8 (x_in 222 rfl rfl) (fun C z => by cases z) (by decide) rfl (by decide) (fun h1 hc1 => ?_)
  show XE l w M_X1_init 10 [(0, .ref (w.2.1 + 407)), (1, .ref (w.2.1 + 1)), (2, .ref (w.2.1 + 7)), (3, .ref (w.2.1 + 97)), (4, .ref (w.2.1 + 405))] [.ref (w.2.1 + 408), .ref (w.2.1 + 407)] _ _
  refine XE_putF (q := 407) (k := 4) hc1 (by decide) hX xc_1 dX1_init_10 (x_in 458 (by decide +kernel) (by decide +kernel)) (by decide) (by decide) rfl rfl rfl rfl rfl (fun h2 hc2 => ?_)
  show XE l w M_X1_init 13 [(0, .ref (w.2.1 + 407)), (1, .ref (w.2.1 + 1)), (2, .ref (w.2.1 + 7)), (3, .ref (w.2.1 + 97)), (4, .ref (w.2.1 + 405))] [] _ _
  refine XE_l (pc' := 15) (ls' := [(0, .ref (w.2.1 + 407)), (1, .ref (w.2.1 + 1)), (2, .ref (w.2.1 + 7)), (3, .ref (w.2.1 + 97)), (4, .ref (w.2.1 + 405))]) (st' := [.ref (w.2.1 + 1), .ref (w.2.1 + 407)]) (fun _ k => e_aload_n dX1_init_13 0 rfl (e_aload_n dX1_init_14 1 rfl (k))) ?_
  refine XE_putF (q := 407) (k := 0) hc2 (by decide) rfl xc_1 dX1_init_15 (x_in 454 (by decide +kernel) (by decide +kernel)) (by decide) (by decide) rfl rfl rfl rfl rfl (fun h3 hc3 => ?_)
  show XE l w M_X1_init 18 [(0, .ref (w.2.1 + 407)), (1, .ref (w.2.1 + 1)), (2, .ref (w.2.1 + 7)), (3, .ref (w.2.1 + 97)), (4, .ref (w.2.1 + 405))] [] _ _
  refine XE_l (pc' := 20) (ls' := [(0, .ref (w.2.1 + 407)), (1, .ref (w.2.1 + 1)), (2, .ref (w.2.1 + 7)), (3, .ref (w.2.1 + 97)), (4, .ref (w.2.1 + 405))]) (st' := [.ref (w.2.1 + 7), .ref (w.2.1 + 407)]) (fun _ k => e_aload_n dX1_init_18 0 rfl (e_aload_n dX1_init_19 2 rfl (k))) ?_
  refine XE_putF (q := 407) (k := 1) hc3 (by decide) rfl xc_1 dX1_init_20 (x_in 455 (by decide +kernel) (by decide +kernel)) (by decide) (by decide) rfl rfl rfl rfl rfl (fun h4 hc4 => ?_)
  show XE l w M_X1_init 23 [(0, .ref (w.2.1 + 407)), (1, .ref (w.2.1 + 1)), (2, .ref (w.2.1 + 7)), (3, .ref (w.2.1 + 97)), (4, .ref (w.2.1 + 405))] [] _ _
  refine XE_l (pc' := 25) (ls' := [(0, .ref (w.2.1 + 407)), (1, .ref (w.2.1 + 1)), (2, .ref (w.2.1 + 7)), (3, .ref (w.2.1 + 97)), (4, .ref (w.2.1 + 405))]) (st' := [.ref (w.2.1 + 97), .ref (w.2.1 + 407)]) (fun _ k => e_aload_n dX1_init_23 0 rfl (e_aload_n dX1_init_24 3 rfl (k))) ?_
  refine XE_putF (q := 407) (k := 2) hc4 (by decide) rfl xc_1 dX1_init_25 (x_in 456 (by decide +kernel) (by decide +kernel)) (by decide) (by decide) rfl rfl rfl rfl rfl (fun h5 hc5 => ?_)
  show XE l w M_X1_init 28 [(0, .ref (w.2.1 + 407)), (1, .ref (w.2.1 + 1)), (2, .ref (w.2.1 + 7)), (3, .ref (w.2.1 + 97)), (4, .ref (w.2.1 + 405))] [] _ _
  refine XE_l (pc' := 31) (ls' := [(0, .ref (w.2.1 + 407)), (1, .ref (w.2.1 + 1)), (2, .ref (w.2.1 + 7)), (3, .ref (w.2.1 + 97)), (4, .ref (w.2.1 + 405))]) (st' := [.ref (w.2.1 + 405), .ref (w.2.1 + 407)]) (fun _ k => e_aload_n dX1_init_28 0 rfl (e_aload dX1_init_29 4 rfl (k))) ?_
  refine XE_putF (q := 407) (k := 3) hc5 (by decide) rfl xc_1 dX1_init_31 (x_in 457 (by decide +kernel) (by decide +kernel)) (by decide) (by decide) rfl rfl rfl rfl rfl (fun h6 hc6 => ?_)
  show XE l w M_X1_init 34 [(0, .ref (w.2.1 + 407)), (1, .ref (w.2.1 + 1)), (2, .ref (w.2.1 + 7)), (3, .ref (w.2.1 + 97)), (4, .ref (w.2.1 + 405))] [] _ _
  refine XE_ret dX1_init_34 rfl ⟨rfl, _, CI_s hc6 (by omega), ?_, fun k hk => ?_⟩
  · exact fa_s rfl (fa_s rfl (fa_b (by decide)))
  · simp (disch := omega) only [uX_n, mX_n]
set_option maxRecDepth 100000 in
set_option maxHeartbeats 4000000 in
theorem ct_X0_init {l : Launch} {w : xW} {g X : Nat → xE} {h : xH} {sl : Nat} (hc : CI w g h 479 sl X) (hX : X 478 = .inr (0, [.null, .null, .null, .null, .null])) : XE l w M_X0_init 0 (lv_args 0 [.ref (w.2.1 + 478), .ref (w.2.1 + 29)]) [] h (fun o => o.1 = .inl none ∧ CR w g 503 (sl + 1320) 478 X o.2) := by
  show XE l w M_X0_init 0 [(0, .ref (w.2.1 + 478)), (1, .ref (w.2.1 + 29))] [] h _
  refine XE_l (pc' := 9) (ls' := [(0, .ref (w.2.1 + 478)), (1, .ref (w.2.1 + 29))]) (st' := [.int 64, .int 10, .ref (w.2.1 + 478)]) (fun _ k => e_aload_n dX0_init_0 0 rfl (e_objInit dX0_init_1 (x_in 510 rfl rfl) (x_in 132 rfl rfl) (x_in 133 (by decide +kernel) (by decide +kernel)) (by decide) (Nat.le_of_ble_eq_true rfl) (e_aload_n dX0_init_4 0 rfl (e_bipush (v := 10) dX0_init_5 (by decide) (e_bipush (v := 64) dX0_init_7 (by decide) (k)))))) ?_
  refine XE_mna (ty := .int) (n := 479) (N := 10) (K := 64) hc dX0_init_9 (x_in 511 rfl rfl) (x_in 233 rfl rfl) (x_in 222 rfl rfl) (fun C z => by cases z) (by decide) (by decide) rfl rfl (by decide) (by decide) (by decide) rfl rfl (fun h1 hc1 => ?_)
  show XE l w M_X0_init 13 [(0, .ref (w.2.1 + 478)), (1, .ref (w.2.1 + 29))] [.ref (w.2.1 + 479), .ref (w.2.1 + 478)] _ _
  refine XE_putF (q := 478) (k := 1) hc1 (by decide) hX xc_0 dX0_init_13 (x_in 513 (by decide +kernel) (by decide +kernel)) (by decide) (by decide) rfl rfl rfl rfl rfl (fun h2 hc2 => ?_)
  show XE l w M_X0_init 16 [(0, .ref (w.2.1 + 478)), (1, .ref (w.2.1 + 29))] [] _ _
  refine XE_l (pc' := 21) (ls' := [(0, .ref (w.2.1 + 478)), (1, .ref (w.2.1 + 29))]) (st' := [.int 64, .int 10, .ref (w.2.1 + 478)]) (fun _ k => e_aload_n dX0_init_16 0 rfl (e_bipush (v := 10) dX0_init_17 (by decide) (e_bipush (v := 64) dX0_init_19 (by decide) (k)))) ?_
  refine XE_mna (ty := .int) (n := 490) (N := 10) (K := 64) hc2 dX0_init_21 (x_in 511 rfl rfl) (x_in 233 rfl rfl) (x_in 222 rfl rfl) (fun C z => by cases z) (by decide) (by decide) rfl rfl (by decide) (by decide) (by decide) rfl rfl (fun h3 hc3 => ?_)
  show XE l w M_X0_init 25 [(0, .ref (w.2.1 + 478)), (1, .ref (w.2.1 + 29))] [.ref (w.2.1 + 490), .ref (w.2.1 + 478)] _ _
  refine XE_putF (q := 478) (k := 2) hc3 (by decide) rfl xc_0 dX0_init_25 (x_in 514 (by decide +kernel) (by decide +kernel)) (by decide) (by decide) rfl rfl rfl rfl rfl (fun h4 hc4 => ?_)
  show XE l w M_X0_init 28 [(0, .ref (w.2.1 + 478)), (1, .ref (w.2.1 + 29))] [] _ _
  refine XE_l (pc' := 31) (ls' := [(0, .ref (w.2.1 + 478)), (1, .ref (w.2.1 + 29))]) (st' := [.int 10, .ref (w.2.1 + 478)]) (fun _ k => e_aload_n dX0_init_28 0 rfl (e_bipush (v := 10) dX0_init_29 (by decide) (k))) ?_
  refine XE_newa (n := 501) (N := 10) hc4 dX0_init_31 (x_in 222 rfl rfl) (fun C z => by cases z) (by decide) rfl (by decide) (fun h5 hc5 => ?_)
  show XE l w M_X0_init 33 [(0, .ref (w.2.1 + 478)), (1, .ref (w.2.1 + 29))] [.ref (w.2.1 + 501), .ref (w.2.1 + 478)] _ _
  refine XE_putF (q := 478) (k := 3) hc5 (by decide) rfl xc_0 dX0_init_33 (x_in 515 (by decide +kernel) (by decide +kernel)) (by decide) (by decide) rfl rfl rfl rfl rfl (fun h6 hc6 => ?_)
  show XE l w M_X0_init 36 [(0, .ref (w.2.1 + 478)), (1, .ref (w.2.1 + 29))] [] _ _
  refine XE_l (pc' := 39) (ls' := [(0, .ref (w.2.1 + 478)), (1, .ref (w.2.1 + 29))]) (st' := [.int 10, .ref (w.2.1 + 478)]) (fun _ k => e_aload_n dX0_init_36 0 rfl (e_bipush (v := 10) dX0_init_37 (by decide) (k))) ?_
  refine XE_newa (n := 502) (N := 10) hc6 dX0_init_39 (x_in 222 rfl rfl) (fun C z => by cases z) (by decide) rfl (by decide) (fun h7 hc7 => ?_)
  show XE l w M_X0_init 41 [(0, .ref (w.2.1 + 478)), (1, .ref (w.2.1 + 29))] [.ref (w.2.1 + 502), .ref (w.2.1 + 478)] _ _
  refine XE_putF (q := 478) (k := 4) hc7 (by decide) rfl xc_0 dX0_init_41 (x_in 516 (by decide +kernel) (by decide +kernel)) (by decide) (by decide) rfl rfl rfl rfl rfl (fun h8 hc8 => ?_)
  show XE l w M_X0_init 44 [(0, .ref (w.2.1 + 478)), (1, .ref (w.2.1 + 29))] [] _ _
  refine XE_l (pc' := 46) (ls' := [(0, .ref (w.2.1 + 478)), (1, .ref (w.2.1 + 29))]) (st' := [.ref (w.2.1 + 29), .ref (w.2.1 + 478)]) (fun _ k => e_aload_n dX0_init_44 0 rfl (e_aload_n dX0_init_45 1 rfl (k))) ?_
  refine XE_putF (q := 478) (k := 0) hc8 (by decide) rfl xc_0 dX0_init_46 (x_in 512 (by decide +kernel) (by decide +kernel)) (by decide) (by decide) rfl rfl rfl rfl rfl (fun h9 hc9 => ?_)
  show XE l w M_X0_init 49 [(0, .ref (w.2.1 + 478)), (1, .ref (w.2.1 + 29))] [] _ _
  refine XE_ret dX0_init_49 rfl ⟨rfl, _, CI_s hc9 (by omega), ?_, fun k hk => ?_⟩
  · exact fa_s rfl (fa_s rfl (fa_s rfl (fa_s rfl (fa_s rfl (fa_s rfl (fa_s rfl (fa_s rfl (fa_s rfl (fa_s rfl (fa_s rfl (fa_s rfl (fa_s rfl (fa_s rfl (fa_s rfl (fa_s rfl (fa_s rfl (fa_s rfl (fa_s rfl (fa_s rfl (fa_s rfl (fa_s rfl (fa_s rfl (fa_s rfl (fa_s rfl (fa_b (by decide))))))))))))))))))))))))))
  · simp (disch := omega) only [uX_n, mX_n]
set_option maxRecDepth 100000 in
set_option maxHeartbeats 4000000 in
theorem ct_X6_init {l : Launch} {w : xW} {g X : Nat → xE} {h : xH} {sl : Nat} (hc : CI w g h 405 sl X) (hX : X 404 = .inr (6, [.null, .null, .null, .null, .null])) : XE l w M_X6_init 0 (lv_args 0 [.ref (w.2.1 + 404), .ref (w.2.1 + 1), .ref (w.2.1 + 7), .ref (w.2.1 + 97)]) [] h (fun o => o.1 = .inl none ∧ CR w g 409 (sl + 176) 404 X o.2) := by
  show XE l w M_X6_init 0 [(0, .ref (w.2.1 + 404)), (1, .ref (w.2.1 + 1)), (2, .ref (w.2.1 + 7)), (3, .ref (w.2.1 + 97))] [] h _
  refine XE_l (pc' := 6) (ls' := [(0, .ref (w.2.1 + 404)), (1, .ref (w.2.1 + 1)), (2, .ref (w.2.1 + 7)), (3, .ref (w.2.1 + 97))]) (st' := [.ref (w.2.1 + 1), .ref (w.2.1 + 404)]) (fun _ k => e_aload_n dX6_init_0 0 rfl (e_objInit dX6_init_1 (x_in 421 rfl rfl) (x_in 132 rfl rfl) (x_in 133 (by decide +kernel) (by decide +kernel)) (by decide) (Nat.le_of_ble_eq_true rfl) (e_aload_n dX6_init_4 0 rfl (e_aload_n dX6_init_5 1 rfl (k))))) ?_
  refine XE_putF (q := 404) (k := 0) hc (by decide) hX xc_6 dX6_init_6 (x_in 482 (by decide +kernel) (by decide +kernel)) (by decide) (by decide) rfl rfl rfl rfl rfl (fun h1 hc1 => ?_)
  show XE l w M_X6_init 9 [(0, .ref (w.2.1 + 404)), (1, .ref (w.2.1 + 1)), (2, .ref (w.2.1 + 7)), (3, .ref (w.2.1 + 97))] [] _ _
  refine XE_l (pc' := 11) (ls' := [(0, .ref (w.2.1 + 404)), (1, .ref (w.2.1 + 1)), (2, .ref (w.2.1 + 7)), (3, .ref (w.2.1 + 97))]) (st' := [.ref (w.2.1 + 7), .ref (w.2.1 + 404)]) (fun _ k => e_aload_n dX6_init_9 0 rfl (e_aload_n dX6_init_10 2 rfl (k))) ?_
  refine XE_putF (q := 404) (k := 1) hc1 (by decide) rfl xc_6 dX6_init_11 (x_in 483 (by decide +kernel) (by decide +kernel)) (by decide) (by decide) rfl rfl rfl rfl rfl (fun h2 hc2 => ?_)
  show XE l w M_X6_init 14 [(0, .ref (w.2.1 + 404)), (1, .ref (w.2.1 + 1)), (2, .ref (w.2.1 + 7)), (3, .ref (w.2.1 + 97))] [] _ _
  refine XE_l (pc' := 16) (ls' := [(0, .ref (w.2.1 + 404)), (1, .ref (w.2.1 + 1)), (2, .ref (w.2.1 + 7)), (3, .ref (w.2.1 + 97))]) (st' := [.ref (w.2.1 + 97), .ref (w.2.1 + 404)]) (fun _ k => e_aload_n dX6_init_14 0 rfl (e_aload_n dX6_init_15 3 rfl (k))) ?_
  refine XE_putF (q := 404) (k := 2) hc2 (by decide) rfl xc_6 dX6_init_16 (x_in 484 (by decide +kernel) (by decide +kernel)) (by decide) (by decide) rfl rfl rfl rfl rfl (fun h3 hc3 => ?_)
  show XE l w M_X6_init 19 [(0, .ref (w.2.1 + 404)), (1, .ref (w.2.1 + 1)), (2, .ref (w.2.1 + 7)), (3, .ref (w.2.1 + 97))] [] _ _
  refine XE_l (pc' := 20) (ls' := [(0, .ref (w.2.1 + 404)), (1, .ref (w.2.1 + 1)), (2, .ref (w.2.1 + 7)), (3, .ref (w.2.1 + 97))]) (st' := [.ref (w.2.1 + 404)]) (fun _ k => e_aload_n dX6_init_19 0 rfl (k)) ?_
  refine XE_new (n := 405) (fs := [.null, .null, .null, .null, .int 0, .int 0]) hc3 xc_7 dX6_init_20 (by decide) (x_in 422 rfl rfl) (x_in 423 rfl rfl) in_X7 rfl (fun j hj => match j, hj with | 0, _ => rfl | 1, _ => rfl | 2, _ => rfl | 3, _ => rfl | 4, _ => rfl | 5, _ => rfl | j + 6, hj => absurd hj (by omega)) (fun h4 hc4 => ?_)
  show XE l w M_X6_init 23 [(0, .ref (w.2.1 + 404)), (1, .ref (w.2.1 + 1)), (2, .ref (w.2.1 + 7)), (3, .ref (w.2.1 + 97))] [.ref (w.2.1 + 405), .ref (w.2.1 + 404)] _ _
  refine XE_l (pc' := 27) (ls' := [(0, .ref (w.2.1 + 404)), (1, .ref (w.2.1 + 1)), (2, .ref (w.2.1 + 7)), (3, .ref (w.2.1 + 97))]) (st' := [.ref (w.2.1 + 97), .ref (w.2.1 + 7), .ref (w.2.1 + 1), .ref (w.2.1 + 405), .ref (w.2.1 + 405), .ref (w.2.1 + 404)]) (fun _ k => e_dup dX6_init_23 rfl (e_aload_n dX6_init_24 1 rfl (e_aload_n dX6_init_25 2 rfl (e_aload_n dX6_init_26 3 rfl (k))))) ?_
  refine XE_init (as := [.ref (w.2.1 + 1), .ref (w.2.1 + 7), .ref (w.2.1 + 97)]) (rest := [.ref (w.2.1 + 405), .ref (w.2.1 + 404)]) (P := CR w g 407 (sl + 6 + 10) 405 _) dX6_init_27 cs_X6_init_X7_init (Or.inl ml_X6_25) im_X7_init rfl rfl rfl rfl rfl (Nat.le_of_ble_eq_true rfl) (Nat.le_of_ble_eq_true rfl) (ct_X7_init (sl := sl + 6) (CI_s hc4 (by omega)) rfl) (fun h5 ⟨X5, hc5, hge5, hlt5⟩ => ?_)
  show XE l w M_X6_init 30 [(0, .ref (w.2.1 + 404)), (1, .ref (w.2.1 + 1)), (2, .ref (w.2.1 + 7)), (3, .ref (w.2.1 + 97))] [.ref (w.2.1 + 405), .ref (w.2.1 + 404)] _ _
  refine XE_putF (q := 404) (k := 3) hc5 (by decide) ((hlt5 404 (by decide)).trans rfl) xc_6 dX6_init_30 (x_in 485 (by decide +kernel) (by decide +kernel)) (by decide) (by decide) rfl rfl rfl rfl rfl (fun h6 hc6 => ?_)
  show XE l w M_X6_init 33 [(0, .ref (w.2.1 + 404)), (1, .ref (w.2.1 + 1)), (2, .ref (w.2.1 + 7)), (3, .ref (w.2.1 + 97))] [] _ _
  refine XE_l (pc' := 34) (ls' := [(0, .ref (w.2.1 + 404)), (1, .ref (w.2.1 + 1)), (2, .ref (w.2.1 + 7)), (3, .ref (w.2.1 + 97))]) (st' := [.ref (w.2.1 + 404)]) (fun _ k => e_aload_n dX6_init_33 0 rfl (k)) ?_
  refine XE_new (n := 407) (fs := [.null, .null, .null, .null, .null, .int 0, .int 0, .int 0, .int 0]) hc6 xc_1 dX6_init_34 (by decide) (x_in 448 rfl rfl) (x_in 449 rfl rfl) in_X1 rfl (fun j hj => match j, hj with | 0, _ => rfl | 1, _ => rfl | 2, _ => rfl | 3, _ => rfl | 4, _ => rfl | 5, _ => rfl | 6, _ => rfl | 7, _ => rfl | 8, _ => rfl | j + 9, hj => absurd hj (by omega)) (fun h7 hc7 => ?_)
  show XE l w M_X6_init 37 [(0, .ref (w.2.1 + 404)), (1, .ref (w.2.1 + 1)), (2, .ref (w.2.1 + 7)), (3, .ref (w.2.1 + 97))] [.ref (w.2.1 + 407), .ref (w.2.1 + 404)] _ _
  refine XE_l (pc' := 42) (ls' := [(0, .ref (w.2.1 + 404)), (1, .ref (w.2.1 + 1)), (2, .ref (w.2.1 + 7)), (3, .ref (w.2.1 + 97))]) (st' := [.ref (w.2.1 + 404), .ref (w.2.1 + 97), .ref (w.2.1 + 7), .ref (w.2.1 + 1), .ref (w.2.1 + 407), .ref (w.2.1 + 407), .ref (w.2.1 + 404)]) (fun _ k => e_dup dX6_init_37 rfl (e_aload_n dX6_init_38 1 rfl (e_aload_n dX6_init_39 2 rfl (e_aload_n dX6_init_40 3 rfl (e_aload_n dX6_init_41 0 rfl (k)))))) ?_
  refine XE_get (q := 404) (k := 3) (v := .ref (w.2.1 + 405)) hc7 (by decide) rfl xc_6 dX6_init_42 fl_X6_28 (by decide) rfl ?_
  show XE l w M_X6_init 45 [(0, .ref (w.2.1 + 404)), (1, .ref (w.2.1 + 1)), (2, .ref (w.2.1 + 7)), (3, .ref (w.2.1 + 97))] [.ref (w.2.1 + 405), .ref (w.2.1 + 97), .ref (w.2.1 + 7), .ref (w.2.1 + 1), .ref (w.2.1 + 407), .ref (w.2.1 + 407), .ref (w.2.1 + 404)] _ _
  refine XE_init (as := [.ref (w.2.1 + 1), .ref (w.2.1 + 7), .ref (w.2.1 + 97), .ref (w.2.1 + 405)]) (rest := [.ref (w.2.1 + 407), .ref (w.2.1 + 404)]) (P := CR w g 409 (sl + 25 + 151) 407 _) dX6_init_45 cs_X6_init_X1_init (Or.inl ml_X6_34) im_X1_init rfl rfl rfl rfl rfl (Nat.le_of_ble_eq_true rfl) (Nat.le_of_ble_eq_true rfl) (ct_X1_init (sl := sl + 25) (CI_s hc7 (by omega)) rfl) (fun h8 ⟨X8, hc8, hge8, hlt8⟩ => ?_)
  show XE l w M_X6_init 48 [(0, .ref (w.2.1 + 404)), (1, .ref (w.2.1 + 1)), (2, .ref (w.2.1 + 7)), (3, .ref (w.2.1 + 97))] [.ref (w.2.1 + 407), .ref (w.2.1 + 404)] _ _
  refine XE_putF (q := 404) (k := 4) hc8 (by decide) ((hlt8 404 (by decide)).trans rfl) xc_6 dX6_init_48 (x_in 486 (by decide +kernel) (by decide +kernel)) (by decide) (by decide) rfl rfl rfl rfl rfl (fun h9 hc9 => ?_)
  show XE l w M_X6_init 51 [(0, .ref (w.2.1 + 404)), (1, .ref (w.2.1 + 1)), (2, .ref (w.2.1 + 7)), (3, .ref (w.2.1 + 97))] [] _ _
  refine XE_ret dX6_init_51 rfl ⟨rfl, _, CI_s hc9 (by omega), ?_, fun k hk => ?_⟩
  · exact fa_s (hge8 408 (by decide) (by decide)) (fa_s (hge8 407 (by decide) (by decide)) (fa_s ((hlt8 406 (by decide)).trans (hge5 406 (by decide) (by decide))) (fa_s ((hlt8 405 (by decide)).trans (hge5 405 (by decide) (by decide))) (fa_s rfl (fa_b (by decide))))))
  · simp (disch := omega) only [uX_n, mX_n, hlt5, hlt8]
set_option maxRecDepth 100000 in
set_option maxHeartbeats 4000000 in
theorem ct_X2_init {l : Launch} {w : xW} {g X : Nat → xE} {h : xH} {sl : Nat} (hc : CI w g h 410 sl X) (hX : X 409 = .inr (2, [.null, .null, .null, .null, .null, .null, .null, .null, .int 0, .int 0, .int 0])) : XE l w M_X2_init 0 (lv_args 0 [.ref (w.2.1 + 409), .ref (w.2.1 + 97), .ref (w.2.1 + 7), .ref (w.2.1 + 29)]) [] h (fun o => o.1 = .inl none ∧ CR w g 503 (sl + 2008) 409 X o.2) := by
  show XE l w M_X2_init 0 [(0, .ref (w.2.1 + 409)), (1, .ref (w.2.1 + 97)), (2, .ref (w.2.1 + 7)), (3, .ref (w.2.1 + 29))] [] h _
  refine XE_l (pc' := 7) (ls' := [(0, .ref (w.2.1 + 409)), (1, .ref (w.2.1 + 97)), (2, .ref (w.2.1 + 7)), (3, .ref (w.2.1 + 29))]) (st' := [.int 20, .ref (w.2.1 + 409)]) (fun _ k => e_aload_n dX2_init_0 0 rfl (e_objInit dX2_init_1 (x_in 503 rfl rfl) (x_in 132 rfl rfl) (x_in 133 (by decide +kernel) (by decide +kernel)) (by decide) (Nat.le_of_ble_eq_true rfl) (e_aload_n dX2_init_4 0 rfl (e_bipush (v := 20) dX2_init_5 (by decide) (k))))) ?_
  refine XE_newa (n := 410) (N := 20) hc dX2_init_7 (x_in 222 rfl rfl) (fun C z => by cases z) (by decide) rfl (by decide) (fun h1 hc1 => ?_)
  show XE l w M_X2_init 9 [(0, .ref (w.2.1 + 409)), (1, .ref (w.2.1 + 97)), (2, .ref (w.2.1 + 7)), (3, .ref (w.2.1 + 29))] [.ref (w.2.1 + 410), .ref (w.2.1 + 409)] _ _
  refine XE_putF (q := 409) (k := 4) hc1 (by decide) hX xc_2 dX2_init_9 (x_in 532 (by decide +kernel) (by decide +kernel)) (by decide) (by decide) rfl rfl rfl rfl rfl (fun h2 hc2 => ?_)
  show XE l w M_X2_init 12 [(0, .ref (w.2.1 + 409)), (1, .ref (w.2.1 + 97)), (2, .ref (w.2.1 + 7)), (3, .ref (w.2.1 + 29))] [] _ _
  refine XE_l (pc' := 15) (ls' := [(0, .ref (w.2.1 + 409)), (1, .ref (w.2.1 + 97)), (2, .ref (w.2.1 + 7)), (3, .ref (w.2.1 + 29))]) (st' := [.int 64, .ref (w.2.1 + 409)]) (fun _ k => e_aload_n dX2_init_12 0 rfl (e_bipush (v := 64) dX2_init_13 (by decide) (k))) ?_
  refine XE_newa (n := 411) (N := 64) hc2 dX2_init_15 (x_in 222 rfl rfl) (fun C z => by cases z) (by decide) rfl (by decide) (fun h3 hc3 => ?_)
  show XE l w M_X2_init 17 [(0, .ref (w.2.1 + 409)), (1, .ref (w.2.1 + 97)), (2, .ref (w.2.1 + 7)), (3, .ref (w.2.1 + 29))] [.ref (w.2.1 + 411), .ref (w.2.1 + 409)] _ _
  refine XE_putF (q := 409) (k := 5) hc3 (by decide) rfl xc_2 dX2_init_17 (x_in 533 (by decide +kernel) (by decide +kernel)) (by decide) (by decide) rfl rfl rfl rfl rfl (fun h4 hc4 => ?_)
  show XE l w M_X2_init 20 [(0, .ref (w.2.1 + 409)), (1, .ref (w.2.1 + 97)), (2, .ref (w.2.1 + 7)), (3, .ref (w.2.1 + 29))] [] _ _
  refine XE_l (pc' := 24) (ls' := [(0, .ref (w.2.1 + 409)), (1, .ref (w.2.1 + 97)), (2, .ref (w.2.1 + 7)), (3, .ref (w.2.1 + 29))]) (st' := [.int 151, .ref (w.2.1 + 409)]) (fun _ k => e_aload_n dX2_init_20 0 rfl (e_sipush (v := 151) dX2_init_21 (by decide) (k))) ?_
  refine XE_newa (n := 412) (N := 151) hc4 dX2_init_24 (x_in 222 rfl rfl) (fun C z => by cases z) (by decide) rfl (by decide) (fun h5 hc5 => ?_)
  show XE l w M_X2_init 26 [(0, .ref (w.2.1 + 409)), (1, .ref (w.2.1 + 97)), (2, .ref (w.2.1 + 7)), (3, .ref (w.2.1 + 29))] [.ref (w.2.1 + 412), .ref (w.2.1 + 409)] _ _
  refine XE_putF (q := 409) (k := 6) hc5 (by decide) rfl xc_2 dX2_init_26 (x_in 535 (by decide +kernel) (by decide +kernel)) (by decide) (by decide) rfl rfl rfl rfl rfl (fun h6 hc6 => ?_)
  show XE l w M_X2_init 29 [(0, .ref (w.2.1 + 409)), (1, .ref (w.2.1 + 97)), (2, .ref (w.2.1 + 7)), (3, .ref (w.2.1 + 29))] [] _ _
  refine XE_l (pc' := 34) (ls' := [(0, .ref (w.2.1 + 409)), (1, .ref (w.2.1 + 97)), (2, .ref (w.2.1 + 7)), (3, .ref (w.2.1 + 29))]) (st' := [.int 6, .int 64, .ref (w.2.1 + 409)]) (fun _ k => e_aload_n dX2_init_29 0 rfl (e_bipush (v := 64) dX2_init_30 (by decide) (e_bipush (v := 6) dX2_init_32 (by decide) (k)))) ?_
  refine XE_mna (ty := .int) (n := 413) (N := 64) (K := 6) hc6 dX2_init_34 (x_in 504 rfl rfl) (x_in 233 rfl rfl) (x_in 222 rfl rfl) (fun C z => by cases z) (by decide) (by decide) rfl rfl (by decide) (by decide) (by decide) rfl rfl (fun h7 hc7 => ?_)
  show XE l w M_X2_init 38 [(0, .ref (w.2.1 + 409)), (1, .ref (w.2.1 + 97)), (2, .ref (w.2.1 + 7)), (3, .ref (w.2.1 + 29))] [.ref (w.2.1 + 413), .ref (w.2.1 + 409)] _ _
  refine XE_putF (q := 409) (k := 7) hc7 (by decide) rfl xc_2 dX2_init_38 (x_in 536 (by decide +kernel) (by decide +kernel)) (by decide) (by decide) rfl rfl rfl rfl rfl (fun h8 hc8 => ?_)
  show XE l w M_X2_init 41 [(0, .ref (w.2.1 + 409)), (1, .ref (w.2.1 + 97)), (2, .ref (w.2.1 + 7)), (3, .ref (w.2.1 + 29))] [] _ _
  refine XE_l (pc' := 43) (ls' := [(0, .ref (w.2.1 + 409)), (1, .ref (w.2.1 + 97)), (2, .ref (w.2.1 + 7)), (3, .ref (w.2.1 + 29))]) (st' := [.ref (w.2.1 + 97), .ref (w.2.1 + 409)]) (fun _ k => e_aload_n dX2_init_41 0 rfl (e_aload_n dX2_init_42 1 rfl (k))) ?_
  refine XE_putF (q := 409) (k := 0) hc8 (by decide) rfl xc_2 dX2_init_43 (x_in 528 (by decide +kernel) (by decide +kernel)) (by decide) (by decide) rfl rfl rfl rfl rfl (fun h9 hc9 => ?_)
  show XE l w M_X2_init 46 [(0, .ref (w.2.1 + 409)), (1, .ref (w.2.1 + 97)), (2, .ref (w.2.1 + 7)), (3, .ref (w.2.1 + 29))] [] _ _
  refine XE_l (pc' := 48) (ls' := [(0, .ref (w.2.1 + 409)), (1, .ref (w.2.1 + 97)), (2, .ref (w.2.1 + 7)), (3, .ref (w.2.1 + 29))]) (st' := [.ref (w.2.1 + 7), .ref (w.2.1 + 409)]) (fun _ k => e_aload_n dX2_init_46 0 rfl (e_aload_n dX2_init_47 2 rfl (k))) ?_
  refine XE_putF (q := 409) (k := 1) hc9 (by decide) rfl xc_2 dX2_init_48 (x_in 529 (by decide +kernel) (by decide +kernel)) (by decide) (by decide) rfl rfl rfl rfl rfl (fun h10 hc10 => ?_)
  show XE l w M_X2_init 51 [(0, .ref (w.2.1 + 409)), (1, .ref (w.2.1 + 97)), (2, .ref (w.2.1 + 7)), (3, .ref (w.2.1 + 29))] [] _ _
  refine XE_l (pc' := 53) (ls' := [(0, .ref (w.2.1 + 409)), (1, .ref (w.2.1 + 97)), (2, .ref (w.2.1 + 7)), (3, .ref (w.2.1 + 29))]) (st' := [.ref (w.2.1 + 29), .ref (w.2.1 + 409)]) (fun _ k => e_aload_n dX2_init_51 0 rfl (e_aload_n dX2_init_52 3 rfl (k))) ?_
  refine XE_putF (q := 409) (k := 2) hc10 (by decide) rfl xc_2 dX2_init_53 (x_in 530 (by decide +kernel) (by decide +kernel)) (by decide) (by decide) rfl rfl rfl rfl rfl (fun h11 hc11 => ?_)
  show XE l w M_X2_init 56 [(0, .ref (w.2.1 + 409)), (1, .ref (w.2.1 + 97)), (2, .ref (w.2.1 + 7)), (3, .ref (w.2.1 + 29))] [] _ _
  refine XE_l (pc' := 57) (ls' := [(0, .ref (w.2.1 + 409)), (1, .ref (w.2.1 + 97)), (2, .ref (w.2.1 + 7)), (3, .ref (w.2.1 + 29))]) (st' := [.ref (w.2.1 + 409)]) (fun _ k => e_aload_n dX2_init_56 0 rfl (k)) ?_
  refine XE_new (n := 478) (fs := [.null, .null, .null, .null, .null]) hc11 xc_0 dX2_init_57 (by decide) (x_in 505 rfl rfl) (x_in 506 rfl rfl) in_X0 rfl (fun j hj => match j, hj with | 0, _ => rfl | 1, _ => rfl | 2, _ => rfl | 3, _ => rfl | 4, _ => rfl | j + 5, hj => absurd hj (by omega)) (fun h12 hc12 => ?_)
  show XE l w M_X2_init 60 [(0, .ref (w.2.1 + 409)), (1, .ref (w.2.1 + 97)), (2, .ref (w.2.1 + 7)), (3, .ref (w.2.1 + 29))] [.ref (w.2.1 + 478), .ref (w.2.1 + 409)] _ _
  refine XE_l (pc' := 62) (ls' := [(0, .ref (w.2.1 + 409)), (1, .ref (w.2.1 + 97)), (2, .ref (w.2.1 + 7)), (3, .ref (w.2.1 + 29))]) (st' := [.ref (w.2.1 + 29), .ref (w.2.1 + 478), .ref (w.2.1 + 478), .ref (w.2.1 + 409)]) (fun _ k => e_dup dX2_init_60 rfl (e_aload_n dX2_init_61 3 rfl (k))) ?_
  refine XE_init (as := [.ref (w.2.1 + 29)]) (rest := [.ref (w.2.1 + 478), .ref (w.2.1 + 409)]) (P := CR w g 503 (sl + 688 + 1320) 478 _) dX2_init_62 cs_X2_init_X0_init (Or.inl ml_X2_40) im_X0_init rfl rfl rfl rfl rfl (Nat.le_of_ble_eq_true rfl) (Nat.le_of_ble_eq_true rfl) (ct_X0_init (sl := sl + 688) (CI_s hc12 (by omega)) rfl) (fun h13 ⟨X13, hc13, hge13, hlt13⟩ => ?_)
  show XE l w M_X2_init 65 [(0, .ref (w.2.1 + 409)), (1, .ref (w.2.1 + 97)), (2, .ref (w.2.1 + 7)), (3, .ref (w.2.1 + 29))] [.ref (w.2.1 + 478), .ref (w.2.1 + 409)] _ _
  refine XE_putF (q := 409) (k := 3) hc13 (by decide) ((hlt13 409 (by decide)).trans rfl) xc_2 dX2_init_65 (x_in 531 (by decide +kernel) (by decide +kernel)) (by decide) (by decide) rfl rfl rfl rfl rfl (fun h14 hc14 => ?_)
  show XE l w M_X2_init 68 [(0, .ref (w.2.1 + 409)), (1, .ref (w.2.1 + 97)), (2, .ref (w.2.1 + 7)), (3, .ref (w.2.1 + 29))] [] _ _
  refine XE_ret dX2_init_68 rfl ⟨rfl, _, CI_s hc14 (by omega), ?_, fun k hk => ?_⟩
  · exact fa_s (hge13 502 (by decide) (by decide)) (fa_s (hge13 501 (by decide) (by decide)) (fa_s (hge13 500 (by decide) (by decide)) (fa_s (hge13 499 (by decide) (by decide)) (fa_s (hge13 498 (by decide) (by decide)) (fa_s (hge13 497 (by decide) (by decide)) (fa_s (hge13 496 (by decide) (by decide)) (fa_s (hge13 495 (by decide) (by decide)) (fa_s (hge13 494 (by decide) (by decide)) (fa_s (hge13 493 (by decide) (by decide)) (fa_s (hge13 492 (by decide) (by decide)) (fa_s (hge13 491 (by decide) (by decide)) (fa_s (hge13 490 (by decide) (by decide)) (fa_s (hge13 489 (by decide) (by decide)) (fa_s (hge13 488 (by decide) (by decide)) (fa_s (hge13 487 (by decide) (by decide)) (fa_s (hge13 486 (by decide) (by decide)) (fa_s (hge13 485 (by decide) (by decide)) (fa_s (hge13 484 (by decide) (by decide)) (fa_s (hge13 483 (by decide) (by decide)) (fa_s (hge13 482 (by decide) (by decide)) (fa_s (hge13 481 (by decide) (by decide)) (fa_s (hge13 480 (by decide) (by decide)) (fa_s (hge13 479 (by decide) (by decide)) (fa_s (hge13 478 (by decide) (by decide)) (fa_s ((hlt13 477 (by decide)).trans rfl) (fa_s ((hlt13 476 (by decide)).trans rfl) (fa_s ((hlt13 475 (by decide)).trans rfl) (fa_s ((hlt13 474 (by decide)).trans rfl) (fa_s ((hlt13 473 (by decide)).trans rfl) (fa_s ((hlt13 472 (by decide)).trans rfl) (fa_s ((hlt13 471 (by decide)).trans rfl) (fa_s ((hlt13 470 (by decide)).trans rfl) (fa_s ((hlt13 469 (by decide)).trans rfl) (fa_s ((hlt13 468 (by decide)).trans rfl) (fa_s ((hlt13 467 (by decide)).trans rfl) (fa_s ((hlt13 466 (by decide)).trans rfl) (fa_s ((hlt13 465 (by decide)).trans rfl) (fa_s ((hlt13 464 (by decide)).trans rfl) (fa_s ((hlt13 463 (by decide)).trans rfl) (fa_s ((hlt13 462 (by decide)).trans rfl) (fa_s ((hlt13 461 (by decide)).trans rfl) (fa_s ((hlt13 460 (by decide)).trans rfl) (fa_s ((hlt13 459 (by decide)).trans rfl) (fa_s ((hlt13 458 (by decide)).trans rfl) (fa_s ((hlt13 457 (by decide)).trans rfl) (fa_s ((hlt13 456 (by decide)).trans rfl) (fa_s ((hlt13 455 (by decide)).trans rfl) (fa_s ((hlt13 454 (by decide)).trans rfl) (fa_s ((hlt13 453 (by decide)).trans rfl) (fa_s ((hlt13 452 (by decide)).trans rfl) (fa_s ((hlt13 451 (by decide)).trans rfl) (fa_s ((hlt13 450 (by decide)).trans rfl) (fa_s ((hlt13 449 (by decide)).trans rfl) (fa_s ((hlt13 448 (by decide)).trans rfl) (fa_s ((hlt13 447 (by decide)).trans rfl) (fa_s ((hlt13 446 (by decide)).trans rfl) (fa_s ((hlt13 445 (by decide)).trans rfl) (fa_s ((hlt13 444 (by decide)).trans rfl) (fa_s ((hlt13 443 (by decide)).trans rfl) (fa_s ((hlt13 442 (by decide)).trans rfl) (fa_s ((hlt13 441 (by decide)).trans rfl) (fa_s ((hlt13 440 (by decide)).trans rfl) (fa_s ((hlt13 439 (by decide)).trans rfl) (fa_s ((hlt13 438 (by decide)).trans rfl) (fa_s ((hlt13 437 (by decide)).trans rfl) (fa_s ((hlt13 436 (by decide)).trans rfl) (fa_s ((hlt13 435 (by decide)).trans rfl) (fa_s ((hlt13 434 (by decide)).trans rfl) (fa_s ((hlt13 433 (by decide)).trans rfl) (fa_s ((hlt13 432 (by decide)).trans rfl) (fa_s ((hlt13 431 (by decide)).trans rfl) (fa_s ((hlt13 430 (by decide)).trans rfl) (fa_s ((hlt13 429 (by decide)).trans rfl) (fa_s ((hlt13 428 (by decide)).trans rfl) (fa_s ((hlt13 427 (by decide)).trans rfl) (fa_s ((hlt13 426 (by decide)).trans rfl) (fa_s ((hlt13 425 (by decide)).trans rfl) (fa_s ((hlt13 424 (by decide)).trans rfl) (fa_s ((hlt13 423 (by decide)).trans rfl) (fa_s ((hlt13 422 (by decide)).trans rfl) (fa_s ((hlt13 421 (by decide)).trans rfl) (fa_s ((hlt13 420 (by decide)).trans rfl) (fa_s ((hlt13 419 (by decide)).trans rfl) (fa_s ((hlt13 418 (by decide)).trans rfl) (fa_s ((hlt13 417 (by decide)).trans rfl) (fa_s ((hlt13 416 (by decide)).trans rfl) (fa_s ((hlt13 415 (by decide)).trans rfl) (fa_s ((hlt13 414 (by decide)).trans rfl) (fa_s ((hlt13 413 (by decide)).trans rfl) (fa_s ((hlt13 412 (by decide)).trans rfl) (fa_s ((hlt13 411 (by decide)).trans rfl) (fa_s ((hlt13 410 (by decide)).trans rfl) (fa_s rfl (fa_b (by decide)))))))))))))))))))))))))))))))))))))))))))))))))))))))))))))))))))))))))))))))))))))))))))))))
  · simp (disch := omega) only [uX_n, mX_n, hlt13]
