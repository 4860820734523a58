/-! constructors -/
set_option maxRecDepth 100000 in
set_option maxHeartbeats 4000000 in
theorem ct_X3_init {l : Launch} {w : xW} {g X : Nat → xE} {h : xH} {sl : Nat} (hc : CI w g h 8 sl X) (hX : X 7 = .inr (3, [.null, .null, .null, .null, .null, .int 0, .int 0, .int 0, .int 0])) : XE l w M_X3_init 0 (lv_args 0 [.ref (w.2.1 + 7)]) [] h (fun o => o.1 = .inl none ∧ ∃ X2, CI w g o.2 29 (sl + 148) X2 ∧ (∀ k, 7 ≤ k → k < 29 → X2 k = cz w.2.1 k) ∧ ∀ k, k < 7 → X2 k = X k) := by
  show XE l w M_X3_init 0 [(0, .ref (w.2.1 + 7))] [] h _
  refine XE_l (pc' := 7) (ls' := [(0, .ref (w.2.1 + 7))]) (st' := [.int 8, .ref (w.2.1 + 7)]) (fun _ k => e_aload_n dX3_init_0 0 rfl (e_objInit dX3_init_1 (x_in 229 rfl rfl) (x_in 132 rfl rfl) (x_in 133 (by decide +kernel) (by decide +kernel)) (by decide) (Nat.le_of_ble_eq_true rfl) (e_aload_n dX3_init_4 0 rfl (e_bipush (v := 8) dX3_init_5 (by decide) (k))))) ?_
  refine XE_newa (n := 8) (N := 8) hc dX3_init_7 (x_in 220 rfl rfl) (fun C z => by cases z) (by decide) rfl (by decide) (fun h1 hc1 => ?_)
  show XE l w M_X3_init 9 [(0, .ref (w.2.1 + 7))] [.ref (w.2.1 + 8), .ref (w.2.1 + 7)] _ _
  refine XE_putF (q := 7) (k := 0) hc1 (by decide) hX xc_3 dX3_init_9 (x_in 234 (by decide +kernel) (by decide +kernel)) (by decide) (by decide) rfl rfl rfl rfl rfl (fun h2 hc2 => ?_)
  show XE l w M_X3_init 12 [(0, .ref (w.2.1 + 7))] [] _ _
  refine XE_l (pc' := 15) (ls' := [(0, .ref (w.2.1 + 7))]) (st' := [.int 8, .ref (w.2.1 + 7)]) (fun _ k => e_aload_n dX3_init_12 0 rfl (e_bipush (v := 8) dX3_init_13 (by decide) (k))) ?_
  refine XE_newa (n := 9) (N := 8) hc2 dX3_init_15 (x_in 222 rfl rfl) (fun C z => by cases z) (by decide) rfl (by decide) (fun h3 hc3 => ?_)
  show XE l w M_X3_init 17 [(0, .ref (w.2.1 + 7))] [.ref (w.2.1 + 9), .ref (w.2.1 + 7)] _ _
  refine XE_putF (q := 7) (k := 1) hc3 (by decide) rfl xc_3 dX3_init_17 (x_in 235 (by decide +kernel) (by decide +kernel)) (by decide) (by decide) rfl rfl rfl rfl rfl (fun h4 hc4 => ?_)
  show XE l w M_X3_init 20 [(0, .ref (w.2.1 + 7))] [] _ _
  refine XE_l (pc' := 25) (ls' := [(0, .ref (w.2.1 + 7))]) (st' := [.int 6, .int 8, .ref (w.2.1 + 7)]) (fun _ k => e_aload_n dX3_init_20 0 rfl (e_bipush (v := 8) dX3_init_21 (by decide) (e_bipush (v := 6) dX3_init_23 (by decide) (k)))) ?_
  refine XE_mna (ty := .long) (n := 10) (N := 8) (K := 6) hc4 dX3_init_25 (x_in 230 rfl rfl) (x_in 231 rfl rfl) (x_in 220 rfl rfl) (fun C z => by cases z) (by decide) (by decide) rfl rfl (by decide) (by decide) (by decide) rfl rfl (fun h5 hc5 => ?_)
  show XE l w M_X3_init 29 [(0, .ref (w.2.1 + 7))] [.ref (w.2.1 + 10), .ref (w.2.1 + 7)] _ _
  refine XE_putF (q := 7) (k := 2) hc5 (by decide) rfl xc_3 dX3_init_29 (x_in 236 (by decide +kernel) (by decide +kernel)) (by decide) (by decide) rfl rfl rfl rfl rfl (fun h6 hc6 => ?_)
  show XE l w M_X3_init 32 [(0, .ref (w.2.1 + 7))] [] _ _
  refine XE_l (pc' := 37) (ls' := [(0, .ref (w.2.1 + 7))]) (st' := [.int 6, .int 8, .ref (w.2.1 + 7)]) (fun _ k => e_aload_n dX3_init_32 0 rfl (e_bipush (v := 8) dX3_init_33 (by decide) (e_bipush (v := 6) dX3_init_35 (by decide) (k)))) ?_
  refine XE_mna (ty := .int) (n := 19) (N := 8) (K := 6) hc6 dX3_init_37 (x_in 232 rfl rfl) (x_in 233 rfl rfl) (x_in 222 rfl rfl) (fun C z => by cases z) (by decide) (by decide) rfl rfl (by decide) (by decide) (by decide) rfl rfl (fun h7 hc7 => ?_)
  show XE l w M_X3_init 41 [(0, .ref (w.2.1 + 7))] [.ref (w.2.1 + 19), .ref (w.2.1 + 7)] _ _
  refine XE_putF (q := 7) (k := 3) hc7 (by decide) rfl xc_3 dX3_init_41 (x_in 237 (by decide +kernel) (by decide +kernel)) (by decide) (by decide) rfl rfl rfl rfl rfl (fun h8 hc8 => ?_)
  show XE l w M_X3_init 44 [(0, .ref (w.2.1 + 7))] [] _ _
  refine XE_l (pc' := 47) (ls' := [(0, .ref (w.2.1 + 7))]) (st' := [.int 20, .ref (w.2.1 + 7)]) (fun _ k => e_aload_n dX3_init_44 0 rfl (e_bipush (v := 20) dX3_init_45 (by decide) (k))) ?_
  refine XE_newa (n := 28) (N := 20) hc8 dX3_init_47 (x_in 220 rfl rfl) (fun C z => by cases z) (by decide) rfl (by decide) (fun h9 hc9 => ?_)
  show XE l w M_X3_init 49 [(0, .ref (w.2.1 + 7))] [.ref (w.2.1 + 28), .ref (w.2.1 + 7)] _ _
  refine XE_putF (q := 7) (k := 4) hc9 (by decide) rfl xc_3 dX3_init_49 (x_in 239 (by decide +kernel) (by decide +kernel)) (by decide) (by decide) rfl rfl rfl rfl rfl (fun h10 hc10 => ?_)
  show XE l w M_X3_init 52 [(0, .ref (w.2.1 + 7))] [] _ _
  refine XE_ret dX3_init_52 rfl ⟨rfl, _, CI_s hc10 (by omega), ?_, fun k hk => ?_⟩
  · exact fa_s rfl (fa_s rfl (fa_s rfl (fa_s rfl (fa_s rfl (fa_s rfl (fa_s rfl (fa_s rfl (fa_s rfl (fa_s rfl (fa_s rfl (fa_s rfl (fa_s rfl (fa_s rfl (fa_s rfl (fa_s rfl (fa_s rfl (fa_s rfl (fa_s rfl (fa_s rfl (fa_s rfl (fa_s rfl (fa_b (by decide)))))))))))))))))))))))
  · simp (disch := omega) only [uX_n, mX_n]
set_option maxRecDepth 100000 in
set_option maxHeartbeats 4000000 in
theorem ct_X10_init {l : Launch} {w : xW} {g X : Nat → xE} {h : xH} {sl : Nat} (hc : CI w g h 30 sl X) (hX : X 29 = .inr (10, [.null, .null, .null, .int 0])) : XE l w M_X10_init 0 (lv_args 0 [.ref (w.2.1 + 29)]) [] h (fun o => o.1 = .inl none ∧ ∃ X2, CI w g o.2 97 (sl + 520) X2 ∧ (∀ k, 29 ≤ k → k < 97 → X2 k = cz w.2.1 k) ∧ ∀ k, k < 29 → X2 k = X k) := by
  show XE l w M_X10_init 0 [(0, .ref (w.2.1 + 29))] [] h _
  refine XE_l (pc' := 7) (ls' := [(0, .ref (w.2.1 + 29))]) (st' := [.int 8, .ref (w.2.1 + 29)]) (fun _ k => e_aload_n dX10_init_0 0 rfl (e_objInit dX10_init_1 (x_in 268 rfl rfl) (x_in 132 rfl rfl) (x_in 133 (by decide +kernel) (by decide +kernel)) (by decide) (Nat.le_of_ble_eq_true rfl) (e_aload_n dX10_init_4 0 rfl (e_bipush (v := 8) dX10_init_5 (by decide) (k))))) ?_
  refine XE_newa (n := 30) (N := 8) hc dX10_init_7 (x_in 220 rfl rfl) (fun C z => by cases z) (by decide) rfl (by decide) (fun h1 hc1 => ?_)
  show XE l w M_X10_init 9 [(0, .ref (w.2.1 + 29))] [.ref (w.2.1 + 30), .ref (w.2.1 + 29)] _ _
  refine XE_putF (q := 29) (k := 0) hc1 (by decide) hX xc_10 dX10_init_9 (x_in 270 (by decide +kernel) (by decide +kernel)) (by decide) (by decide) rfl rfl rfl rfl rfl (fun h2 hc2 => ?_)
  show XE l w M_X10_init 12 [(0, .ref (w.2.1 + 29))] [] _ _
  refine XE_l (pc' := 17) (ls' := [(0, .ref (w.2.1 + 29))]) (st' := [.int 6, .int 64, .ref (w.2.1 + 29)]) (fun _ k => e_aload_n dX10_init_12 0 rfl (e_bipush (v := 64) dX10_init_13 (by decide) (e_bipush (v := 6) dX10_init_15 (by decide) (k)))) ?_
  refine XE_mna (ty := .int) (n := 31) (N := 64) (K := 6) hc2 dX10_init_17 (x_in 269 rfl rfl) (x_in 233 rfl rfl) (x_in 222 rfl rfl) (fun C z => by cases z) (by decide) (by decide) rfl rfl (by decide) (by decide) (by decide) rfl rfl (fun h3 hc3 => ?_)
  show XE l w M_X10_init 21 [(0, .ref (w.2.1 + 29))] [.ref (w.2.1 + 31), .ref (w.2.1 + 29)] _ _
  refine XE_putF (q := 29) (k := 1) hc3 (by decide) rfl xc_10 dX10_init_21 (x_in 272 (by decide +kernel) (by decide +kernel)) (by decide) (by decide) rfl rfl rfl rfl rfl (fun h4 hc4 => ?_)
  show XE l w M_X10_init 24 [(0, .ref (w.2.1 + 29))] [] _ _
  refine XE_l (pc' := 27) (ls' := [(0, .ref (w.2.1 + 29))]) (st' := [.int 64, .ref (w.2.1 + 29)]) (fun _ k => e_aload_n dX10_init_24 0 rfl (e_bipush (v := 64) dX10_init_25 (by decide) (k))) ?_
  refine XE_newa (n := 96) (N := 64) hc4 dX10_init_27 (x_in 222 rfl rfl) (fun C z => by cases z) (by decide) rfl (by decide) (fun h5 hc5 => ?_)
  show XE l w M_X10_init 29 [(0, .ref (w.2.1 + 29))] [.ref (w.2.1 + 96), .ref (w.2.1 + 29)] _ _
  refine XE_putF (q := 29) (k := 2) hc5 (by decide) rfl xc_10 dX10_init_29 (x_in 276 (by decide +kernel) (by decide +kernel)) (by decide) (by decide) rfl rfl rfl rfl rfl (fun h6 hc6 => ?_)
  show XE l w M_X10_init 32 [(0, .ref (w.2.1 + 29))] [] _ _
  refine XE_ret dX10_init_32 rfl ⟨rfl, _, CI_s hc6 (by omega), ?_, fun k hk => ?_⟩
  · exact fa_s rfl (fa_s rfl (fa_s rfl (fa_s rfl (fa_s rfl (fa_s rfl (fa_s rfl (fa_s rfl (fa_s rfl (fa_s rfl (fa_s rfl (fa_s rfl (fa_s rfl (fa_s rfl (fa_s rfl (fa_s rfl (fa_s rfl (fa_s rfl (fa_s rfl (fa_s rfl (fa_s rfl (fa_s rfl (fa_s rfl (fa_s rfl (fa_s rfl (fa_s rfl (fa_s rfl (fa_s rfl (fa_s rfl (fa_s rfl (fa_s rfl (fa_s rfl (fa_s rfl (fa_s rfl (fa_s rfl (fa_s rfl (fa_s rfl (fa_s rfl (fa_s rfl (fa_s rfl (fa_s rfl (fa_s rfl (fa_s rfl (fa_s rfl (fa_s rfl (fa_s rfl (fa_s rfl (fa_s rfl (fa_s rfl (fa_s rfl (fa_s rfl (fa_s rfl (fa_s rfl (fa_s rfl (fa_s rfl (fa_s rfl (fa_s rfl (fa_s rfl (fa_s rfl (fa_s rfl (fa_s rfl (fa_s rfl (fa_s rfl (fa_s rfl (fa_s rfl (fa_s rfl (fa_s rfl (fa_s rfl (fa_b (by decide)))))))))))))))))))))))))))))))))))))))))))))))))))))))))))))))))))))
  · simp (disch := omega) only [uX_n, mX_n]
set_option maxRecDepth 100000 in
set_option maxHeartbeats 4000000 in
theorem ct_X7_init {l : Launch} {w : xW} {g X : Nat → xE} {h : xH} {sl : Nat} (hc : CI w g h 406 sl X) (hX : X 405 = .inr (7, [.null, .null, .null, .null, .int 0, .int 0])) : XE l w M_X7_init 0 (lv_args 0 [.ref (w.2.1 + 405), .ref (w.2.1 + 1), .ref (w.2.1 + 7), .ref (w.2.1 + 97)]) [] h (fun o => o.1 = .inl none ∧ ∃ X2, CI w g o.2 407 (sl + 10) X2 ∧ (∀ k, 405 ≤ k → k < 407 → X2 k = cz w.2.1 k) ∧ ∀ k, k < 405 → X2 k = X k) := by
  show XE l w M_X7_init 0 [(0, .ref (w.2.1 + 405)), (1, .ref (w.2.1 + 1)), (2, .ref (w.2.1 + 7)), (3, .ref (w.2.1 + 97))] [] h _
  refine XE_l (pc' := 7) (ls' := [(0, .ref (w.2.1 + 405)), (1, .ref (w.2.1 + 1)), (2, .ref (w.2.1 + 7)), (3, .ref (w.2.1 + 97))]) (st' := [.int 10, .ref (w.2.1 + 405)]) (fun _ k => e_aload_n dX7_init_0 0 rfl (e_objInit dX7_init_1 (x_in 427 rfl rfl) (x_in 132 rfl rfl) (x_in 133 (by decide +kernel) (by decide +kernel)) (by decide) (Nat.le_of_ble_eq_true rfl) (e_aload_n dX7_init_4 0 rfl (e_bipush (v := 10) dX7_init_5 (by decide) (k))))) ?_
  refine XE_newa (n := 406) (N := 10) hc dX7_init_7 (x_in 222 rfl rfl) (fun C z => by cases z) (by decide) rfl (by decide) (fun h1 hc1 => ?_)
  show XE l w M_X7_init 9 [(0, .ref (w.2.1 + 405)), (1, .ref (w.2.1 + 1)), (2, .ref (w.2.1 + 7)), (3, .ref (w.2.1 + 97))] [.ref (w.2.1 + 406), .ref (w.2.1 + 405)] _ _
  refine XE_putF (q := 405) (k := 3) hc1 (by decide) hX xc_7 dX7_init_9 (x_in 431 (by decide +kernel) (by decide +kernel)) (by decide) (by decide) rfl rfl rfl rfl rfl (fun h2 hc2 => ?_)
  show XE l w M_X7_init 12 [(0, .ref (w.2.1 + 405)), (1, .ref (w.2.1 + 1)), (2, .ref (w.2.1 + 7)), (3, .ref (w.2.1 + 97))] [] _ _
  refine XE_l (pc' := 14) (ls' := [(0, .ref (w.2.1 + 405)), (1, .ref (w.2.1 + 1)), (2, .ref (w.2.1 + 7)), (3, .ref (w.2.1 + 97))]) (st' := [.ref (w.2.1 + 1), .ref (w.2.1 + 405)]) (fun _ k => e_aload_n dX7_init_12 0 rfl (e_aload_n dX7_init_13 1 rfl (k))) ?_
  refine XE_putF (q := 405) (k := 0) hc2 (by decide) rfl xc_7 dX7_init_14 (x_in 428 (by decide +kernel) (by decide +kernel)) (by decide) (by decide) rfl rfl rfl rfl rfl (fun h3 hc3 => ?_)
  show XE l w M_X7_init 17 [(0, .ref (w.2.1 + 405)), (1, .ref (w.2.1 + 1)), (2, .ref (w.2.1 + 7)), (3, .ref (w.2.1 + 97))] [] _ _
  refine XE_l (pc' := 19) (ls' := [(0, .ref (w.2.1 + 405)), (1, .ref (w.2.1 + 1)), (2, .ref (w.2.1 + 7)), (3, .ref (w.2.1 + 97))]) (st' := [.ref (w.2.1 + 7), .ref (w.2.1 + 405)]) (fun _ k => e_aload_n dX7_init_17 0 rfl (e_aload_n dX7_init_18 2 rfl (k))) ?_
  refine XE_putF (q := 405) (k := 1) hc3 (by decide) rfl xc_7 dX7_init_19 (x_in 429 (by decide +kernel) (by decide +kernel)) (by decide) (by decide) rfl rfl rfl rfl rfl (fun h4 hc4 => ?_)
  show XE l w M_X7_init 22 [(0, .ref (w.2.1 + 405)), (1, .ref (w.2.1 + 1)), (2, .ref (w.2.1 + 7)), (3, .ref (w.2.1 + 97))] [] _ _
  refine XE_l (pc' := 24) (ls' := [(0, .ref (w.2.1 + 405)), (1, .ref (w.2.1 + 1)), (2, .ref (w.2.1 + 7)), (3, .ref (w.2.1 + 97))]) (st' := [.ref (w.2.1 + 97), .ref (w.2.1 + 405)]) (fun _ k => e_aload_n dX7_init_22 0 rfl (e_aload_n dX7_init_23 3 rfl (k))) ?_
  refine XE_putF (q := 405) (k := 2) hc4 (by decide) rfl xc_7 dX7_init_24 (x_in 430 (by decide +kernel) (by decide +kernel)) (by decide) (by decide) rfl rfl rfl rfl rfl (fun h5 hc5 => ?_)
  show XE l w M_X7_init 27 [(0, .ref (w.2.1 + 405)), (1, .ref (w.2.1 + 1)), (2, .ref (w.2.1 + 7)), (3, .ref (w.2.1 + 97))] [] _ _
  refine XE_ret dX7_init_27 rfl ⟨rfl, _, CI_s hc5 (by omega), ?_, fun k hk => ?_⟩
  · exact fa_s rfl (fa_s rfl (fa_b (by decide)))
  · simp (disch := omega) only [uX_n, mX_n]
set_option maxRecDepth 100000 in
set_option maxHeartbeats 4000000 in
theorem ct_X1_init {l : Launch} {w : xW} {g X : Nat → xE} {h : xH} {sl : Nat} (hc : CI w g h 408 sl X) (hX : X 407 = .inr (1, [.null, .null, .null, .null, .null, .int 0, .int 0, .int 0, .int 0])) : XE l w M_X1_init 0 (lv_args 0 [.ref (w.2.1 + 407), .ref (w.2.1 + 1), .ref (w.2.1 + 7), .ref (w.2.1 + 97), .ref (w.2.1 + 405)]) [] h (fun o => o.1 = .inl none ∧ ∃ X2, CI w g o.2 409 (sl + 151) X2 ∧ (∀ k, 407 ≤ k → k < 409 → X2 k = cz w.2.1 k) ∧ ∀ k, k < 407 → X2 k = X k) := by
  show XE l w M_X1_init 0 [(0, .ref (w.2.1 + 407)), (1, .ref (w.2.1 + 1)), (2, .ref (w.2.1 + 7)), (3, .ref (w.2.1 + 97)), (4, .ref (w.2.1 + 405))] [] h _
  refine XE_l (pc' := 8) (ls' := [(0, .ref (w.2.1 + 407)), (1, .ref (w.2.1 + 1)), (2, .ref (w.2.1 + 7)), (3, .ref (w.2.1 + 97)), (4, .ref (w.2.1 + 405))]) (st' := [.int 151, .ref (w.2.1 + 407)]) (fun _ k => e_aload_n dX1_init_0 0 rfl (e_objInit dX1_init_1 (x_in 453 rfl rfl) (x_in 132 rfl rfl) (x_in 133 (by decide +kernel) (by decide +kernel)) (by decide) (Nat.le_of_ble_eq_true rfl) (e_aload_n dX1_init_4 0 rfl (e_sipush (v := 151) dX1_init_5 (by decide) (k))))) ?_
  refine XE_newa (n := 408) (N := 151) hc dX1_init_8 (x_in 222 rfl rfl) (fun C z => by cases z) (by decide) rfl (by decide) (fun h1 hc1 => ?_)
  show XE l w M_X1_init 10 [(0, .ref (w.2.1 + 407)), (1, .ref (w.2.1 + 1)), (2, .ref (w.2.1 + 7)), (3, .ref (w.2.1 + 97)), (4, .ref (w.2.1 + 405))] [.ref (w.2.1 + 408), .ref (w.2.1 + 407)] _ _
  refine XE_putF (q := 407) (k := 4) hc1 (by decide) hX xc_1 dX1_init_10 (x_in 458 (by decide +kernel) (by decide +kernel)) (by decide) (by decide) rfl rfl rfl rfl rfl (fun h2 hc2 => ?_)
  show XE l w M_X1_init 13 [(0, .ref (w.2.1 + 407)), (1, .ref (w.2.1 + 1)), (2, .ref (w.2.1 + 7)), (3, .ref (w.2.1 + 97)), (4, .ref (w.2.1 + 405))] [] _ _
  refine XE_l (pc' := 15) (ls' := [(0, .ref (w.2.1 + 407)), (1, .ref (w.2.1 + 1)), (2, .ref (w.2.1 + 7)), (3, .ref (w.2.1 + 97)), (4, .ref (w.2.1 + 405))]) (st' := [.ref (w.2.1 + 1), .ref (w.2.1 + 407)]) (fun _ k => e_aload_n dX1_init_13 0 rfl (e_aload_n dX1_init_14 1 rfl (k))) ?_
  refine XE_putF (q := 407) (k := 0) hc2 (by decide) rfl xc_1 dX1_init_15 (x_in 454 (by decide +kernel) (by decide +kernel)) (by decide) (by decide) rfl rfl rfl rfl rfl (fun h3 hc3 => ?_)
  show XE l w M_X1_init 18 [(0, .ref (w.2.1 + 407)), (1, .ref (w.2.1 + 1)), (2, .ref (w.2.1 + 7)), (3, .ref (w.2.1 + 97)), (4, .ref (w.2.1 + 405))] [] _ _
  refine XE_l (pc' := 20) (ls' := [(0, .ref (w.2.1 + 407)), (1, .ref (w.2.1 + 1)), (2, .ref (w.2.1 + 7)), (3, .ref (w.2.1 + 97)), (4, .ref (w.2.1 + 405))]) (st' := [.ref (w.2.1 + 7), .ref (w.2.1 + 407)]) (fun _ k => e_aload_n dX1_init_18 0 rfl (e_aload_n dX1_init_19 2 rfl (k))) ?_
  refine XE_putF (q := 407) (k := 1) hc3 (by decide) rfl xc_1 dX1_init_20 (x_in 455 (by decide +kernel) (by decide +kernel)) (by decide) (by decide) rfl rfl rfl rfl rfl (fun h4 hc4 => ?_)
  show XE l w M_X1_init 23 [(0, .ref (w.2.1 + 407)), (1, .ref (w.2.1 + 1)), (2, .ref (w.2.1 + 7)), (3, .ref (w.2.1 + 97)), (4, .ref (w.2.1 + 405))] [] _ _
  refine XE_l (pc' := 25) (ls' := [(0, .ref (w.2.1 + 407)), (1, .ref (w.2.1 + 1)), (2, .ref (w.2.1 + 7)), (3, .ref (w.2.1 + 97)), (4, .ref (w.2.1 + 405))]) (st' := [.ref (w.2.1 + 97), .ref (w.2.1 + 407)]) (fun _ k => e_aload_n dX1_init_23 0 rfl (e_aload_n dX1_init_24 3 rfl (k))) ?_
  refine XE_putF (q := 407) (k := 2) hc4 (by decide) rfl xc_1 dX1_init_25 (x_in 456 (by decide +kernel) (by decide +kernel)) (by decide) (by decide) rfl rfl rfl rfl rfl (fun h5 hc5 => ?_)
  show XE l w M_X1_init 28 [(0, .ref (w.2.1 + 407)), (1, .ref (w.2.1 + 1)), (2, .ref (w.2.1 + 7)), (3, .ref (w.2.1 + 97)), (4, .ref (w.2.1 + 405))] [] _ _
  refine XE_l (pc' := 31) (ls' := [(0, .ref (w.2.1 + 407)), (1, .ref (w.2.1 + 1)), (2, .ref (w.2.1 + 7)), (3, .ref (w.2.1 + 97)), (4, .ref (w.2.1 + 405))]) (st' := [.ref (w.2.1 + 405), .ref (w.2.1 + 407)]) (fun _ k => e_aload_n dX1_init_28 0 rfl (e_aload dX1_init_29 4 rfl (k))) ?_
  refine XE_putF (q := 407) (k := 3) hc5 (by decide) rfl xc_1 dX1_init_31 (x_in 457 (by decide +kernel) (by decide +kernel)) (by decide) (by decide) rfl rfl rfl rfl rfl (fun h6 hc6 => ?_)
  show XE l w M_X1_init 34 [(0, .ref (w.2.1 + 407)), (1, .ref (w.2.1 + 1)), (2, .ref (w.2.1 + 7)), (3, .ref (w.2.1 + 97)), (4, .ref (w.2.1 + 405))] [] _ _
  refine XE_ret dX1_init_34 rfl ⟨rfl, _, CI_s hc6 (by omega), ?_, fun k hk => ?_⟩
  · exact fa_s rfl (fa_s rfl (fa_b (by decide)))
  · simp (disch := omega) only [uX_n, mX_n]
set_option maxRecDepth 100000 in
set_option maxHeartbeats 4000000 in
theorem ct_X0_init {l : Launch} {w : xW} {g X : Nat → xE} {h : xH} {sl : Nat} (hc : CI w g h 479 sl X) (hX : X 478 = .inr (0, [.null, .null, .null, .null, .null])) : XE l w M_X0_init 0 (lv_args 0 [.ref (w.2.1 + 478), .ref (w.2.1 + 29)]) [] h (fun o => o.1 = .inl none ∧ ∃ X2, CI w g o.2 503 (sl + 1320) X2 ∧ (∀ k, 478 ≤ k → k < 503 → X2 k = cz w.2.1 k) ∧ ∀ k, k < 478 → X2 k = X k) := by
  show XE l w M_X0_init 0 [(0, .ref (w.2.1 + 478)), (1, .ref (w.2.1 + 29))] [] h _
  refine XE_l (pc' := 9) (ls' := [(0, .ref (w.2.1 + 478)), (1, .ref (w.2.1 + 29))]) (st' := [.int 64, .int 10, .ref (w.2.1 + 478)]) (fun _ k => e_aload_n dX0_init_0 0 rfl (e_objInit dX0_init_1 (x_in 510 rfl rfl) (x_in 132 rfl rfl) (x_in 133 (by decide +kernel) (by decide +kernel)) (by decide) (Nat.le_of_ble_eq_true rfl) (e_aload_n dX0_init_4 0 rfl (e_bipush (v := 10) dX0_init_5 (by decide) (e_bipush (v := 64) dX0_init_7 (by decide) (k)))))) ?_
  refine XE_mna (ty := .int) (n := 479) (N := 10) (K := 64) hc dX0_init_9 (x_in 511 rfl rfl) (x_in 233 rfl rfl) (x_in 222 rfl rfl) (fun C z => by cases z) (by decide) (by decide) rfl rfl (by decide) (by decide) (by decide) rfl rfl (fun h1 hc1 => ?_)
  show XE l w M_X0_init 13 [(0, .ref (w.2.1 + 478)), (1, .ref (w.2.1 + 29))] [.ref (w.2.1 + 479), .ref (w.2.1 + 478)] _ _
  refine XE_putF (q := 478) (k := 1) hc1 (by decide) hX xc_0 dX0_init_13 (x_in 513 (by decide +kernel) (by decide +kernel)) (by decide) (by decide) rfl rfl rfl rfl rfl (fun h2 hc2 => ?_)
  show XE l w M_X0_init 16 [(0, .ref (w.2.1 + 478)), (1, .ref (w.2.1 + 29))] [] _ _
  refine XE_l (pc' := 21) (ls' := [(0, .ref (w.2.1 + 478)), (1, .ref (w.2.1 + 29))]) (st' := [.int 64, .int 10, .ref (w.2.1 + 478)]) (fun _ k => e_aload_n dX0_init_16 0 rfl (e_bipush (v := 10) dX0_init_17 (by decide) (e_bipush (v := 64) dX0_init_19 (by decide) (k)))) ?_
  refine XE_mna (ty := .int) (n := 490) (N := 10) (K := 64) hc2 dX0_init_21 (x_in 511 rfl rfl) (x_in 233 rfl rfl) (x_in 222 rfl rfl) (fun C z => by cases z) (by decide) (by decide) rfl rfl (by decide) (by decide) (by decide) rfl rfl (fun h3 hc3 => ?_)
  show XE l w M_X0_init 25 [(0, .ref (w.2.1 + 478)), (1, .ref (w.2.1 + 29))] [.ref (w.2.1 + 490), .ref (w.2.1 + 478)] _ _
  refine XE_putF (q := 478) (k := 2) hc3 (by decide) rfl xc_0 dX0_init_25 (x_in 514 (by decide +kernel) (by decide +kernel)) (by decide) (by decide) rfl rfl rfl rfl rfl (fun h4 hc4 => ?_)
  show XE l w M_X0_init 28 [(0, .ref (w.2.1 + 478)), (1, .ref (w.2.1 + 29))] [] _ _
  refine XE_l (pc' := 31) (ls' := [(0, .ref (w.2.1 + 478)), (1, .ref (w.2.1 + 29))]) (st' := [.int 10, .ref (w.2.1 + 478)]) (fun _ k => e_aload_n dX0_init_28 0 rfl (e_bipush (v := 10) dX0_init_29 (by decide) (k))) ?_
  refine XE_newa (n := 501) (N := 10) hc4 dX0_init_31 (x_in 222 rfl rfl) (fun C z => by cases z) (by decide) rfl (by decide) (fun h5 hc5 => ?_)
  show XE l w M_X0_init 33 [(0, .ref (w.2.1 + 478)), (1, .ref (w.2.1 + 29))] [.ref (w.2.1 + 501), .ref (w.2.1 + 478)] _ _
  refine XE_putF (q := 478) (k := 3) hc5 (by decide) rfl xc_0 dX0_init_33 (x_in 515 (by decide +kernel) (by decide +kernel)) (by decide) (by decide) rfl rfl rfl rfl rfl (fun h6 hc6 => ?_)
  show XE l w M_X0_init 36 [(0, .ref (w.2.1 + 478)), (1, .ref (w.2.1 + 29))] [] _ _
  refine XE_l (pc' := 39) (ls' := [(0, .ref (w.2.1 + 478)), (1, .ref (w.2.1 + 29))]) (st' := [.int 10, .ref (w.2.1 + 478)]) (fun _ k => e_aload_n dX0_init_36 0 rfl (e_bipush (v := 10) dX0_init_37 (by decide) (k))) ?_
  refine XE_newa (n := 502) (N := 10) hc6 dX0_init_39 (x_in 222 rfl rfl) (fun C z => by cases z) (by decide) rfl (by decide) (fun h7 hc7 => ?_)
  show XE l w M_X0_init 41 [(0, .ref (w.2.1 + 478)), (1, .ref (w.2.1 + 29))] [.ref (w.2.1 + 502), .ref (w.2.1 + 478)] _ _
  refine XE_putF (q := 478) (k := 4) hc7 (by decide) rfl xc_0 dX0_init_41 (x_in 516 (by decide +kernel) (by decide +kernel)) (by decide) (by decide) rfl rfl rfl rfl rfl (fun h8 hc8 => ?_)
  show XE l w M_X0_init 44 [(0, .ref (w.2.1 + 478)), (1, .ref (w.2.1 + 29))] [] _ _
  refine XE_l (pc' := 46) (ls' := [(0, .ref (w.2.1 + 478)), (1, .ref (w.2.1 + 29))]) (st' := [.ref (w.2.1 + 29), .ref (w.2.1 + 478)]) (fun _ k => e_aload_n dX0_init_44 0 rfl (e_aload_n dX0_init_45 1 rfl (k))) ?_
  refine XE_putF (q := 478) (k := 0) hc8 (by decide) rfl xc_0 dX0_init_46 (x_in 512 (by decide +kernel) (by decide +kernel)) (by decide) (by decide) rfl rfl rfl rfl rfl (fun h9 hc9 => ?_)
  show XE l w M_X0_init 49 [(0, .ref (w.2.1 + 478)), (1, .ref (w.2.1 + 29))] [] _ _
  refine XE_ret dX0_init_49 rfl ⟨rfl, _, CI_s hc9 (by omega), ?_, fun k hk => ?_⟩
  · exact fa_s rfl (fa_s rfl (fa_s rfl (fa_s rfl (fa_s rfl (fa_s rfl (fa_s rfl (fa_s rfl (fa_s rfl (fa_s rfl (fa_s rfl (fa_s rfl (fa_s rfl (fa_s rfl (fa_s rfl (fa_s rfl (fa_s rfl (fa_s rfl (fa_s rfl (fa_s rfl (fa_s rfl (fa_s rfl (fa_s rfl (fa_s rfl (fa_s rfl (fa_b (by decide))))))))))))))))))))))))))
  · simp (disch := omega) only [uX_n, mX_n]
