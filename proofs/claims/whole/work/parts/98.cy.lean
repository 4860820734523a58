/-! the last constructors, and the law as far as its loop -/
set_option maxRecDepth 100000 in
set_option maxHeartbeats 4000000 in
theorem ct_X9_init {l : Launch} {w : xW} {g X : Nat → xE} {h : xH} {sl : Nat} (ht : x_TX w g) (hc : CI w g h 2 sl X) (hX : X 1 = .inr (9, [.null, .null, .null, .null, .null, .int 0, .int 0, .int 0])) : XE l w M_X9_init 0 (lv_args 0 [.ref (w.2.1 + 1)]) [] h (fun o => o.1 = .inl none ∧ CR w g 7 (sl + 974) 1 X o.2) := by
  show XE l w M_X9_init 0 [(0, .ref (w.2.1 + 1))] [] h _
  refine XE_l (pc' := 7) (ls' := [(0, .ref (w.2.1 + 1))]) (st' := [.int 21, .ref (w.2.1 + 1)]) (fun _ k => e_aload_n dX9_init_0 0 rfl (e_objInit dX9_init_1 (x_in 139 rfl rfl) (x_in 132 rfl rfl) (x_in 133 (by decide +kernel) (by decide +kernel)) (by decide) (Nat.le_of_ble_eq_true rfl) (e_aload_n dX9_init_4 0 rfl (e_bipush (v := 21) dX9_init_5 (by decide) (k))))) ?_
  refine XE_newa (n := 2) (N := 21) hc dX9_init_7 (x_in 220 rfl rfl) (fun C z => by cases z) (by decide) rfl (by decide) (fun h1 hc1 => ?_)
  show XE l w M_X9_init 9 [(0, .ref (w.2.1 + 1))] [.ref (w.2.1 + 2), .ref (w.2.1 + 1)] _ _
  refine XE_putF (q := 1) (k := 0) hc1 (by decide) hX xc_9 dX9_init_9 (x_in 193 (by decide +kernel) (by decide +kernel)) (by decide) (by decide) rfl rfl rfl rfl rfl (fun h2 hc2 => ?_)
  show XE l w M_X9_init 12 [(0, .ref (w.2.1 + 1))] [] _ _
  refine XE_l (pc' := 16) (ls' := [(0, .ref (w.2.1 + 1))]) (st' := [.int 500, .ref (w.2.1 + 1)]) (fun _ k => e_aload_n dX9_init_12 0 rfl (e_sipush (v := 500) dX9_init_13 (by decide) (k))) ?_
  refine XE_newa (n := 3) (N := 500) hc2 dX9_init_16 (x_in 221 rfl rfl) (fun C z => by cases z) (by decide) rfl (by decide) (fun h3 hc3 => ?_)
  show XE l w M_X9_init 18 [(0, .ref (w.2.1 + 1))] [.ref (w.2.1 + 3), .ref (w.2.1 + 1)] _ _
  refine XE_putF (q := 1) (k := 1) hc3 (by decide) rfl xc_9 dX9_init_18 (x_in 194 (by decide +kernel) (by decide +kernel)) (by decide) (by decide) rfl rfl rfl rfl rfl (fun h4 hc4 => ?_)
  show XE l w M_X9_init 21 [(0, .ref (w.2.1 + 1))] [] _ _
  refine XE_l (pc' := 25) (ls' := [(0, .ref (w.2.1 + 1))]) (st' := [.int 151, .ref (w.2.1 + 1)]) (fun _ k => e_aload_n dX9_init_21 0 rfl (e_sipush (v := 151) dX9_init_22 (by decide) (k))) ?_
  refine XE_newa (n := 4) (N := 151) hc4 dX9_init_25 (x_in 222 rfl rfl) (fun C z => by cases z) (by decide) rfl (by decide) (fun h5 hc5 => ?_)
  show XE l w M_X9_init 27 [(0, .ref (w.2.1 + 1))] [.ref (w.2.1 + 4), .ref (w.2.1 + 1)] _ _
  refine XE_putF (q := 1) (k := 2) hc5 (by decide) rfl xc_9 dX9_init_27 (x_in 195 (by decide +kernel) (by decide +kernel)) (by decide) (by decide) rfl rfl rfl rfl rfl (fun h6 hc6 => ?_)
  show XE l w M_X9_init 30 [(0, .ref (w.2.1 + 1))] [] _ _
  refine XE_l (pc' := 34) (ls' := [(0, .ref (w.2.1 + 1))]) (st' := [.int 151, .ref (w.2.1 + 1)]) (fun _ k => e_aload_n dX9_init_30 0 rfl (e_sipush (v := 151) dX9_init_31 (by decide) (k))) ?_
  refine XE_newa (n := 5) (N := 151) hc6 dX9_init_34 (x_in 222 rfl rfl) (fun C z => by cases z) (by decide) rfl (by decide) (fun h7 hc7 => ?_)
  show XE l w M_X9_init 36 [(0, .ref (w.2.1 + 1))] [.ref (w.2.1 + 5), .ref (w.2.1 + 1)] _ _
  refine XE_putF (q := 1) (k := 3) hc7 (by decide) rfl xc_9 dX9_init_36 (x_in 196 (by decide +kernel) (by decide +kernel)) (by decide) (by decide) rfl rfl rfl rfl rfl (fun h8 hc8 => ?_)
  show XE l w M_X9_init 39 [(0, .ref (w.2.1 + 1))] [] _ _
  refine XE_l (pc' := 43) (ls' := [(0, .ref (w.2.1 + 1))]) (st' := [.int 151, .ref (w.2.1 + 1)]) (fun _ k => e_aload_n dX9_init_39 0 rfl (e_sipush (v := 151) dX9_init_40 (by decide) (k))) ?_
  refine XE_newa (n := 6) (N := 151) hc8 dX9_init_43 (x_in 220 rfl rfl) (fun C z => by cases z) (by decide) rfl (by decide) (fun h9 hc9 => ?_)
  show XE l w M_X9_init 45 [(0, .ref (w.2.1 + 1))] [.ref (w.2.1 + 6), .ref (w.2.1 + 1)] _ _
  refine XE_putF (q := 1) (k := 4) hc9 (by decide) rfl xc_9 dX9_init_45 (x_in 197 (by decide +kernel) (by decide +kernel)) (by decide) (by decide) rfl rfl rfl rfl rfl (fun h10 hc10 => ?_)
  show XE l w M_X9_init 48 [(0, .ref (w.2.1 + 1))] [] _ _
  refine XE_l (pc' := 52) (ls' := [(2, .int 0), (1, .int 1), (0, .ref (w.2.1 + 1))]) (st' := []) (fun _ k => e_iconst (v := 1) dX9_init_48 (by decide) (e_istore_n (ls' := [(1, .int 1), (0, .ref (w.2.1 + 1))]) dX9_init_49 (by decide) rfl (e_iconst (v := 0) dX9_init_50 (by decide) (e_istore_n (ls' := [(2, .int 0), (1, .int 1), (0, .ref (w.2.1 + 1))]) dX9_init_51 (by decide) rfl k)))) ?_
  exact cl_X9 (sl := sl + 974) (X0 := X) ht 103 0 _ _ rfl (CI_s hc10 (by omega)) rfl rfl (fa_s rfl (fa_s rfl (fa_s rfl (fa_s rfl (fa_b (by decide)))))) (fun k hk => by simp (disch := omega) only [uX_n, mX_n])
set_option maxRecDepth 100000 in
set_option maxHeartbeats 4000000 in
theorem ct_X5_init {l : Launch} {w : xW} {g X : Nat → xE} {h : xH} {sl : Nat} (hc : CI w g h 98 sl X) (hX : X 97 = .inr (5, [.null, .null, .null, .null, .int 0, .int 0, .int 0])) : XE l w M_X5_init 0 (lv_args 0 [.ref (w.2.1 + 97)]) [] h (fun o => o.1 = .inl none ∧ CR w g 404 (sl + 3171) 97 X o.2) := by
  show XE l w M_X5_init 0 [(0, .ref (w.2.1 + 97))] [] h _
  refine XE_l (pc' := 8) (ls' := [(0, .ref (w.2.1 + 97))]) (st' := [.int 151, .ref (w.2.1 + 97)]) (fun _ k => e_aload_n dX5_init_0 0 rfl (e_objInit dX5_init_1 (x_in 293 rfl rfl) (x_in 132 rfl rfl) (x_in 133 (by decide +kernel) (by decide +kernel)) (by decide) (Nat.le_of_ble_eq_true rfl) (e_aload_n dX5_init_4 0 rfl (e_sipush (v := 151) dX5_init_5 (by decide) (k))))) ?_
  refine XE_anew (n := 98) (N := 151) (C := RX8) hc dX5_init_8 (x_in 294 rfl rfl) (x_in 295 rfl rfl) (by decide) rfl (by decide) (fun h1 hc1 => ?_)
  show XE l w M_X5_init 11 [(0, .ref (w.2.1 + 97))] [.ref (w.2.1 + 98), .ref (w.2.1 + 97)] _ _
  refine XE_putF (q := 97) (k := 0) hc1 (by decide) hX xc_5 dX5_init_11 (x_in 382 (by decide +kernel) (by decide +kernel)) (by decide) (by decide) rfl rfl rfl rfl rfl (fun h2 hc2 => ?_)
  show XE l w M_X5_init 14 [(0, .ref (w.2.1 + 97))] [] _ _
  refine XE_l (pc' := 18) (ls' := [(0, .ref (w.2.1 + 97))]) (st' := [.int 151, .ref (w.2.1 + 97)]) (fun _ k => e_aload_n dX5_init_14 0 rfl (e_sipush (v := 151) dX5_init_15 (by decide) (k))) ?_
  refine XE_anew (n := 99) (N := 151) (C := RX4) hc2 dX5_init_18 (x_in 296 rfl rfl) (x_in 297 rfl rfl) (by decide) rfl (by decide) (fun h3 hc3 => ?_)
  show XE l w M_X5_init 21 [(0, .ref (w.2.1 + 97))] [.ref (w.2.1 + 99), .ref (w.2.1 + 97)] _ _
  refine XE_putF (q := 97) (k := 1) hc3 (by decide) rfl xc_5 dX5_init_21 (x_in 386 (by decide +kernel) (by decide +kernel)) (by decide) (by decide) rfl rfl rfl rfl rfl (fun h4 hc4 => ?_)
  show XE l w M_X5_init 24 [(0, .ref (w.2.1 + 97))] [] _ _
  refine XE_l (pc' := 28) (ls' := [(0, .ref (w.2.1 + 97))]) (st' := [.int 151, .ref (w.2.1 + 97)]) (fun _ k => e_aload_n dX5_init_24 0 rfl (e_sipush (v := 151) dX5_init_25 (by decide) (k))) ?_
  refine XE_newa (n := 100) (N := 151) hc4 dX5_init_28 (x_in 222 rfl rfl) (fun C z => by cases z) (by decide) rfl (by decide) (fun h5 hc5 => ?_)
  show XE l w M_X5_init 30 [(0, .ref (w.2.1 + 97))] [.ref (w.2.1 + 100), .ref (w.2.1 + 97)] _ _
  refine XE_putF (q := 97) (k := 2) hc5 (by decide) rfl xc_5 dX5_init_30 (x_in 389 (by decide +kernel) (by decide +kernel)) (by decide) (by decide) rfl rfl rfl rfl rfl (fun h6 hc6 => ?_)
  show XE l w M_X5_init 33 [(0, .ref (w.2.1 + 97))] [] _ _
  refine XE_l (pc' := 37) (ls' := [(0, .ref (w.2.1 + 97))]) (st' := [.int 151, .ref (w.2.1 + 97)]) (fun _ k => e_aload_n dX5_init_33 0 rfl (e_sipush (v := 151) dX5_init_34 (by decide) (k))) ?_
  refine XE_newa (n := 101) (N := 151) hc6 dX5_init_37 (x_in 222 rfl rfl) (fun C z => by cases z) (by decide) rfl (by decide) (fun h7 hc7 => ?_)
  show XE l w M_X5_init 39 [(0, .ref (w.2.1 + 97))] [.ref (w.2.1 + 101), .ref (w.2.1 + 97)] _ _
  refine XE_putF (q := 97) (k := 3) hc7 (by decide) rfl xc_5 dX5_init_39 (x_in 391 (by decide +kernel) (by decide +kernel)) (by decide) (by decide) rfl rfl rfl rfl rfl (fun h8 hc8 => ?_)
  show XE l w M_X5_init 42 [(0, .ref (w.2.1 + 97))] [] _ _
  refine XE_l (pc' := 44) (ls' := [(1, .int 0), (0, .ref (w.2.1 + 97))]) (st' := []) (fun _ k => e_iconst (v := 0) dX5_init_42 (by decide) (e_istore_n (ls' := [(1, .int 0), (0, .ref (w.2.1 + 97))]) dX5_init_43 (by decide) rfl k)) ?_
  exact XE_m (cl_X5 (sl := sl + 604) (X0 := X) 151 0 _ _ rfl (CI_s hc8 (by omega)) rfl (congrArg (fun f => (.inl (.object RX8, 151, f) : xE)) rfn_0) (congrArg (fun f => (.inl (.object RX4, 151, f) : xE)) rfn_0) rfl rfl (fun k k1 k2 => by omega) (fun k hk => by simp (disch := omega) only [uX_n, mX_n])) (fun o z => ⟨z.1, CR_s z.2 (by omega)⟩)
set_option maxRecDepth 100000 in
set_option maxHeartbeats 4000000 in
theorem ct_X12a {l : Launch} {w : xW} {g X : Nat → xE} {h : xH} {sl : Nat} {F : xO × xH → Prop} (hc : CI w g h 504 sl X) (hX : X 503 = .inr (12, [.int 0, .null, .int 0, .int 0, .null, .null, .null, .null, .int 0, .null, .null, .null, .null, .null, .int 0, .null, .null, .null, .int 0, .null, .int 0, .int 0, .int 0, .int 0, .null, .int 0, .int 0, .null, .int 0, .int 0, .int 0, .null, .null, .null, .null, .int 0, .int 0, .null, .null, .int 0, .null, .null, .null, .null, .null, .null, .null, .int 0])) (kk : ∀ h', CI w g h' 533 (sl + 7114) (WX w.2.1 X 0) → XE l w M_X12_init 342 [(0, .ref (w.2.1 + 503))] [] h' F) : XE l w M_X12_init 0 [(0, .ref (w.2.1 + 503))] [] h F := by
  have y0 := Y_0 hc hX
  refine XE_l (pc' := 6) (ls' := [(0, .ref (w.2.1 + 503))]) (st' := [.int 0, .ref (w.2.1 + 503)]) (fun _ k => e_aload_n dX12_init_0 0 rfl (e_objInit dX12_init_1 (x_in 1191 rfl rfl) (x_in 132 rfl rfl) (x_in 133 (by decide +kernel) (by decide +kernel)) (by decide) (Nat.le_of_ble_eq_true rfl) (e_aload_n dX12_init_4 0 rfl (e_iconst (v := 0) dX12_init_5 (by decide) (k))))) ?_
  refine XE_put (q := 503) (k := 0) y0 (by decide) (YX_503 (lo := w.2.1) (X := X)) xc_12 dX12_init_6 fl_X12_7 (by decide) (by decide) rfl rfl rfl (fun h1 hc1 => ?_)
  show XE l w M_X12_init 9 [(0, .ref (w.2.1 + 503))] [] _ _
  have y1 := Y_put (fs' := [.int 0, .null, .int 0, .int 0, .null, .null, .null, .null, .int 0, .null, .null, .null, .null, .null, .int 0, .null, .null, .null, .int 0, .null, .int 0, .int 0, .int 0, .int 0, .null, .int 0, .int 0, .null, .int 0, .int 0, .int 0, .null, .null, .null, .null, .int 0, .int 0, .null, .null, .int 0, .null, .null, .null, .null, .null, .null, .null, .int 0]) hc1 rfl
  clear hc1
  refine XE_l (pc' := 13) (ls' := [(0, .ref (w.2.1 + 503))]) (st' := [.int 500, .ref (w.2.1 + 503)]) (fun _ k => e_aload_n dX12_init_9 0 rfl (e_sipush (v := 500) dX12_init_10 (by decide) (k))) ?_
  refine XE_newa (n := 504) (N := 500) y1 dX12_init_13 (x_in 222 rfl rfl) (fun C z => by cases z) (by decide) rfl (by decide) (fun h2 hc2 => ?_)
  show XE l w M_X12_init 15 [(0, .ref (w.2.1 + 503))] [.ref (w.2.1 + 504), .ref (w.2.1 + 503)] _ _
  refine XE_putF (q := 503) (k := 1) hc2 (by decide) (YX_503 (lo := w.2.1) (X := X)) xc_12 dX12_init_15 (x_in 1223 (by decide +kernel) (by decide +kernel)) (by decide) (by decide) rfl rfl rfl rfl rfl (fun h3 hc3 => ?_)
  show XE l w M_X12_init 18 [(0, .ref (w.2.1 + 503))] [] _ _
  have y3 := Y_step (fs' := [.int 0, .ref (w.2.1 + 504), .int 0, .int 0, .null, .null, .null, .null, .int 0, .null, .null, .null, .null, .null, .int 0, .null, .null, .null, .int 0, .null, .int 0, .int 0, .int 0, .int 0, .null, .int 0, .int 0, .null, .int 0, .int 0, .int 0, .null, .null, .null, .null, .int 0, .int 0, .null, .null, .int 0, .null, .null, .null, .null, .null, .null, .null, .int 0]) hc3 (by decide) rfl rfl
  clear hc3
  refine XE_l (pc' := 20) (ls' := [(0, .ref (w.2.1 + 503))]) (st' := [.int 0, .ref (w.2.1 + 503)]) (fun _ k => e_aload_n dX12_init_18 0 rfl (e_iconst (v := 0) dX12_init_19 (by decide) (k))) ?_
  refine XE_put (q := 503) (k := 2) y3 (by decide) (YX_503 (lo := w.2.1) (X := X)) xc_12 dX12_init_20 fl_X12_17 (by decide) (by decide) rfl rfl rfl (fun h4 hc4 => ?_)
  show XE l w M_X12_init 23 [(0, .ref (w.2.1 + 503))] [] _ _
  have y4 := Y_put (fs' := [.int 0, .ref (w.2.1 + 504), .int 0, .int 0, .null, .null, .null, .null, .int 0, .null, .null, .null, .null, .null, .int 0, .null, .null, .null, .int 0, .null, .int 0, .int 0, .int 0, .int 0, .null, .int 0, .int 0, .null, .int 0, .int 0, .int 0, .null, .null, .null, .null, .int 0, .int 0, .null, .null, .int 0, .null, .null, .null, .null, .null, .null, .null, .int 0]) hc4 rfl
  clear hc4
  refine XE_l (pc' := 25) (ls' := [(0, .ref (w.2.1 + 503))]) (st' := [.int 0, .ref (w.2.1 + 503)]) (fun _ k => e_aload_n dX12_init_23 0 rfl (e_iconst (v := 0) dX12_init_24 (by decide) (k))) ?_
  refine XE_put (q := 503) (k := 3) y4 (by decide) (YX_503 (lo := w.2.1) (X := X)) xc_12 dX12_init_25 fl_X12_20 (by decide) (by decide) rfl rfl rfl (fun h5 hc5 => ?_)
  show XE l w M_X12_init 28 [(0, .ref (w.2.1 + 503))] [] _ _
  have y5 := Y_put (fs' := [.int 0, .ref (w.2.1 + 504), .int 0, .int 0, .null, .null, .null, .null, .int 0, .null, .null, .null, .null, .null, .int 0, .null, .null, .null, .int 0, .null, .int 0, .int 0, .int 0, .int 0, .null, .int 0, .int 0, .null, .int 0, .int 0, .int 0, .null, .null, .null, .null, .int 0, .int 0, .null, .null, .int 0, .null, .null, .null, .null, .null, .null, .null, .int 0]) hc5 rfl
  clear hc5
  refine XE_l (pc' := 31) (ls' := [(0, .ref (w.2.1 + 503))]) (st' := [.int 7, .ref (w.2.1 + 503)]) (fun _ k => e_aload_n dX12_init_28 0 rfl (e_bipush (v := 7) dX12_init_29 (by decide) (k))) ?_
  refine XE_newa (n := 505) (N := 7) y5 dX12_init_31 (x_in 220 rfl rfl) (fun C z => by cases z) (by decide) rfl (by decide) (fun h6 hc6 => ?_)
  show XE l w M_X12_init 33 [(0, .ref (w.2.1 + 503))] [.ref (w.2.1 + 505), .ref (w.2.1 + 503)] _ _
  refine XE_putF (q := 503) (k := 4) hc6 (by decide) (YX_503 (lo := w.2.1) (X := X)) xc_12 dX12_init_33 (x_in 1226 (by decide +kernel) (by decide +kernel)) (by decide) (by decide) rfl rfl rfl rfl rfl (fun h7 hc7 => ?_)
  show XE l w M_X12_init 36 [(0, .ref (w.2.1 + 503))] [] _ _
  have y7 := Y_step (fs' := [.int 0, .ref (w.2.1 + 504), .int 0, .int 0, .ref (w.2.1 + 505), .null, .null, .null, .int 0, .null, .null, .null, .null, .null, .int 0, .null, .null, .null, .int 0, .null, .int 0, .int 0, .int 0, .int 0, .null, .int 0, .int 0, .null, .int 0, .int 0, .int 0, .null, .null, .null, .null, .int 0, .int 0, .null, .null, .int 0, .null, .null, .null, .null, .null, .null, .null, .int 0]) hc7 (by decide) rfl rfl
  clear hc7
  refine XE_l (pc' := 39) (ls' := [(0, .ref (w.2.1 + 503))]) (st' := [.int 7, .ref (w.2.1 + 503)]) (fun _ k => e_aload_n dX12_init_36 0 rfl (e_bipush (v := 7) dX12_init_37 (by decide) (k))) ?_
  refine XE_newa (n := 506) (N := 7) y7 dX12_init_39 (x_in 222 rfl rfl) (fun C z => by cases z) (by decide) rfl (by decide) (fun h8 hc8 => ?_)
  show XE l w M_X12_init 41 [(0, .ref (w.2.1 + 503))] [.ref (w.2.1 + 506), .ref (w.2.1 + 503)] _ _
  refine XE_putF (q := 503) (k := 5) hc8 (by decide) (YX_503 (lo := w.2.1) (X := X)) xc_12 dX12_init_41 (x_in 1227 (by decide +kernel) (by decide +kernel)) (by decide) (by decide) rfl rfl rfl rfl rfl (fun h9 hc9 => ?_)
  show XE l w M_X12_init 44 [(0, .ref (w.2.1 + 503))] [] _ _
  have y9 := Y_step (fs' := [.int 0, .ref (w.2.1 + 504), .int 0, .int 0, .ref (w.2.1 + 505), .ref (w.2.1 + 506), .null, .null, .int 0, .null, .null, .null, .null, .null, .int 0, .null, .null, .null, .int 0, .null, .int 0, .int 0, .int 0, .int 0, .null, .int 0, .int 0, .null, .int 0, .int 0, .int 0, .null, .null, .null, .null, .int 0, .int 0, .null, .null, .int 0, .null, .null, .null, .null, .null, .null, .null, .int 0]) hc9 (by decide) rfl rfl
  clear hc9
  refine XE_l (pc' := 47) (ls' := [(0, .ref (w.2.1 + 503))]) (st' := [.int 42, .ref (w.2.1 + 503)]) (fun _ k => e_aload_n dX12_init_44 0 rfl (e_bipush (v := 42) dX12_init_45 (by decide) (k))) ?_
  refine XE_newa (n := 507) (N := 42) y9 dX12_init_47 (x_in 220 rfl rfl) (fun C z => by cases z) (by decide) rfl (by decide) (fun h10 hc10 => ?_)
  show XE l w M_X12_init 49 [(0, .ref (w.2.1 + 503))] [.ref (w.2.1 + 507), .ref (w.2.1 + 503)] _ _
  refine XE_putF (q := 503) (k := 6) hc10 (by decide) (YX_503 (lo := w.2.1) (X := X)) xc_12 dX12_init_49 (x_in 1228 (by decide +kernel) (by decide +kernel)) (by decide) (by decide) rfl rfl rfl rfl rfl (fun h11 hc11 => ?_)
  show XE l w M_X12_init 52 [(0, .ref (w.2.1 + 503))] [] _ _
  have y11 := Y_step (fs' := [.int 0, .ref (w.2.1 + 504), .int 0, .int 0, .ref (w.2.1 + 505), .ref (w.2.1 + 506), .ref (w.2.1 + 507), .null, .int 0, .null, .null, .null, .null, .null, .int 0, .null, .null, .null, .int 0, .null, .int 0, .int 0, .int 0, .int 0, .null, .int 0, .int 0, .null, .int 0, .int 0, .int 0, .null, .null, .null, .null, .int 0, .int 0, .null, .null, .int 0, .null, .null, .null, .null, .null, .null, .null, .int 0]) hc11 (by decide) rfl rfl
  clear hc11
  refine XE_l (pc' := 55) (ls' := [(0, .ref (w.2.1 + 503))]) (st' := [.int 42, .ref (w.2.1 + 503)]) (fun _ k => e_aload_n dX12_init_52 0 rfl (e_bipush (v := 42) dX12_init_53 (by decide) (k))) ?_
  refine XE_newa (n := 508) (N := 42) y11 dX12_init_55 (x_in 222 rfl rfl) (fun C z => by cases z) (by decide) rfl (by decide) (fun h12 hc12 => ?_)
  show XE l w M_X12_init 57 [(0, .ref (w.2.1 + 503))] [.ref (w.2.1 + 508), .ref (w.2.1 + 503)] _ _
  refine XE_putF (q := 503) (k := 7) hc12 (by decide) (YX_503 (lo := w.2.1) (X := X)) xc_12 dX12_init_57 (x_in 1229 (by decide +kernel) (by decide +kernel)) (by decide) (by decide) rfl rfl rfl rfl rfl (fun h13 hc13 => ?_)
  show XE l w M_X12_init 60 [(0, .ref (w.2.1 + 503))] [] _ _
  have y13 := Y_step (fs' := [.int 0, .ref (w.2.1 + 504), .int 0, .int 0, .ref (w.2.1 + 505), .ref (w.2.1 + 506), .ref (w.2.1 + 507), .ref (w.2.1 + 508), .int 0, .null, .null, .null, .null, .null, .int 0, .null, .null, .null, .int 0, .null, .int 0, .int 0, .int 0, .int 0, .null, .int 0, .int 0, .null, .int 0, .int 0, .int 0, .null, .null, .null, .null, .int 0, .int 0, .null, .null, .int 0, .null, .null, .null, .null, .null, .null, .null, .int 0]) hc13 (by decide) rfl rfl
  clear hc13
  refine XE_l (pc' := 62) (ls' := [(0, .ref (w.2.1 + 503))]) (st' := [.int 0, .ref (w.2.1 + 503)]) (fun _ k => e_aload_n dX12_init_60 0 rfl (e_iconst (v := 0) dX12_init_61 (by decide) (k))) ?_
  refine XE_put (q := 503) (k := 8) y13 (by decide) (YX_503 (lo := w.2.1) (X := X)) xc_12 dX12_init_62 fl_X12_36 (by decide) (by decide) rfl rfl rfl (fun h14 hc14 => ?_)
  show XE l w M_X12_init 65 [(0, .ref (w.2.1 + 503))] [] _ _
  have y14 := Y_put (fs' := [.int 0, .ref (w.2.1 + 504), .int 0, .int 0, .ref (w.2.1 + 505), .ref (w.2.1 + 506), .ref (w.2.1 + 507), .ref (w.2.1 + 508), .int 0, .null, .null, .null, .null, .null, .int 0, .null, .null, .null, .int 0, .null, .int 0, .int 0, .int 0, .int 0, .null, .int 0, .int 0, .null, .int 0, .int 0, .int 0, .null, .null, .null, .null, .int 0, .int 0, .null, .null, .int 0, .null, .null, .null, .null, .null, .null, .null, .int 0]) hc14 rfl
  clear hc14
  refine XE_l (pc' := 68) (ls' := [(0, .ref (w.2.1 + 503))]) (st' := [.int 20, .ref (w.2.1 + 503)]) (fun _ k => e_aload_n dX12_init_65 0 rfl (e_bipush (v := 20) dX12_init_66 (by decide) (k))) ?_
  refine XE_newa (n := 509) (N := 20) y14 dX12_init_68 (x_in 220 rfl rfl) (fun C z => by cases z) (by decide) rfl (by decide) (fun h15 hc15 => ?_)
  show XE l w M_X12_init 70 [(0, .ref (w.2.1 + 503))] [.ref (w.2.1 + 509), .ref (w.2.1 + 503)] _ _
  refine XE_putF (q := 503) (k := 9) hc15 (by decide) (YX_503 (lo := w.2.1) (X := X)) xc_12 dX12_init_70 (x_in 1231 (by decide +kernel) (by decide +kernel)) (by decide) (by decide) rfl rfl rfl rfl rfl (fun h16 hc16 => ?_)
  show XE l w M_X12_init 73 [(0, .ref (w.2.1 + 503))] [] _ _
  have y16 := Y_step (fs' := [.int 0, .ref (w.2.1 + 504), .int 0, .int 0, .ref (w.2.1 + 505), .ref (w.2.1 + 506), .ref (w.2.1 + 507), .ref (w.2.1 + 508), .int 0, .ref (w.2.1 + 509), .null, .null, .null, .null, .int 0, .null, .null, .null, .int 0, .null, .int 0, .int 0, .int 0, .int 0, .null, .int 0, .int 0, .null, .int 0, .int 0, .int 0, .null, .null, .null, .null, .int 0, .int 0, .null, .null, .int 0, .null, .null, .null, .null, .null, .null, .null, .int 0]) hc16 (by decide) rfl rfl
  clear hc16
  refine XE_l (pc' := 76) (ls' := [(0, .ref (w.2.1 + 503))]) (st' := [.int 20, .ref (w.2.1 + 503)]) (fun _ k => e_aload_n dX12_init_73 0 rfl (e_bipush (v := 20) dX12_init_74 (by decide) (k))) ?_
  refine XE_newa (n := 510) (N := 20) y16 dX12_init_76 (x_in 222 rfl rfl) (fun C z => by cases z) (by decide) rfl (by decide) (fun h17 hc17 => ?_)
  show XE l w M_X12_init 78 [(0, .ref (w.2.1 + 503))] [.ref (w.2.1 + 510), .ref (w.2.1 + 503)] _ _
  refine XE_putF (q := 503) (k := 10) hc17 (by decide) (YX_503 (lo := w.2.1) (X := X)) xc_12 dX12_init_78 (x_in 1232 (by decide +kernel) (by decide +kernel)) (by decide) (by decide) rfl rfl rfl rfl rfl (fun h18 hc18 => ?_)
  show XE l w M_X12_init 81 [(0, .ref (w.2.1 + 503))] [] _ _
  have y18 := Y_step (fs' := [.int 0, .ref (w.2.1 + 504), .int 0, .int 0, .ref (w.2.1 + 505), .ref (w.2.1 + 506), .ref (w.2.1 + 507), .ref (w.2.1 + 508), .int 0, .ref (w.2.1 + 509), .ref (w.2.1 + 510), .null, .null, .null, .int 0, .null, .null, .null, .int 0, .null, .int 0, .int 0, .int 0, .int 0, .null, .int 0, .int 0, .null, .int 0, .int 0, .int 0, .null, .null, .null, .null, .int 0, .int 0, .null, .null, .int 0, .null, .null, .null, .null, .null, .null, .null, .int 0]) hc18 (by decide) rfl rfl
  clear hc18
  refine XE_l (pc' := 84) (ls' := [(0, .ref (w.2.1 + 503))]) (st' := [.int 64, .ref (w.2.1 + 503)]) (fun _ k => e_aload_n dX12_init_81 0 rfl (e_bipush (v := 64) dX12_init_82 (by decide) (k))) ?_
  refine XE_newa (n := 511) (N := 64) y18 dX12_init_84 (x_in 222 rfl rfl) (fun C z => by cases z) (by decide) rfl (by decide) (fun h19 hc19 => ?_)
  show XE l w M_X12_init 86 [(0, .ref (w.2.1 + 503))] [.ref (w.2.1 + 511), .ref (w.2.1 + 503)] _ _
  refine XE_putF (q := 503) (k := 11) hc19 (by decide) (YX_503 (lo := w.2.1) (X := X)) xc_12 dX12_init_86 (x_in 1233 (by decide +kernel) (by decide +kernel)) (by decide) (by decide) rfl rfl rfl rfl rfl (fun h20 hc20 => ?_)
  show XE l w M_X12_init 89 [(0, .ref (w.2.1 + 503))] [] _ _
  have y20 := Y_step (fs' := [.int 0, .ref (w.2.1 + 504), .int 0, .int 0, .ref (w.2.1 + 505), .ref (w.2.1 + 506), .ref (w.2.1 + 507), .ref (w.2.1 + 508), .int 0, .ref (w.2.1 + 509), .ref (w.2.1 + 510), .ref (w.2.1 + 511), .null, .null, .int 0, .null, .null, .null, .int 0, .null, .int 0, .int 0, .int 0, .int 0, .null, .int 0, .int 0, .null, .int 0, .int 0, .int 0, .null, .null, .null, .null, .int 0, .int 0, .null, .null, .int 0, .null, .null, .null, .null, .null, .null, .null, .int 0]) hc20 (by decide) rfl rfl
  clear hc20
  refine XE_l (pc' := 93) (ls' := [(0, .ref (w.2.1 + 503))]) (st' := [.int 384, .ref (w.2.1 + 503)]) (fun _ k => e_aload_n dX12_init_89 0 rfl (e_sipush (v := 384) dX12_init_90 (by decide) (k))) ?_
  refine XE_newa (n := 512) (N := 384) y20 dX12_init_93 (x_in 222 rfl rfl) (fun C z => by cases z) (by decide) rfl (by decide) (fun h21 hc21 => ?_)
  show XE l w M_X12_init 95 [(0, .ref (w.2.1 + 503))] [.ref (w.2.1 + 512), .ref (w.2.1 + 503)] _ _
  refine XE_putF (q := 503) (k := 12) hc21 (by decide) (YX_503 (lo := w.2.1) (X := X)) xc_12 dX12_init_95 (x_in 1234 (by decide +kernel) (by decide +kernel)) (by decide) (by decide) rfl rfl rfl rfl rfl (fun h22 hc22 => ?_)
  show XE l w M_X12_init 98 [(0, .ref (w.2.1 + 503))] [] _ _
  have y22 := Y_step (fs' := [.int 0, .ref (w.2.1 + 504), .int 0, .int 0, .ref (w.2.1 + 505), .ref (w.2.1 + 506), .ref (w.2.1 + 507), .ref (w.2.1 + 508), .int 0, .ref (w.2.1 + 509), .ref (w.2.1 + 510), .ref (w.2.1 + 511), .ref (w.2.1 + 512), .null, .int 0, .null, .null, .null, .int 0, .null, .int 0, .int 0, .int 0, .int 0, .null, .int 0, .int 0, .null, .int 0, .int 0, .int 0, .null, .null, .null, .null, .int 0, .int 0, .null, .null, .int 0, .null, .null, .null, .null, .null, .null, .null, .int 0]) hc22 (by decide) rfl rfl
  clear hc22
  refine XE_l (pc' := 101) (ls' := [(0, .ref (w.2.1 + 503))]) (st' := [.int 64, .ref (w.2.1 + 503)]) (fun _ k => e_aload_n dX12_init_98 0 rfl (e_bipush (v := 64) dX12_init_99 (by decide) (k))) ?_
  refine XE_newa (n := 513) (N := 64) y22 dX12_init_101 (x_in 222 rfl rfl) (fun C z => by cases z) (by decide) rfl (by decide) (fun h23 hc23 => ?_)
  show XE l w M_X12_init 103 [(0, .ref (w.2.1 + 503))] [.ref (w.2.1 + 513), .ref (w.2.1 + 503)] _ _
  refine XE_putF (q := 503) (k := 13) hc23 (by decide) (YX_503 (lo := w.2.1) (X := X)) xc_12 dX12_init_103 (x_in 1235 (by decide +kernel) (by decide +kernel)) (by decide) (by decide) rfl rfl rfl rfl rfl (fun h24 hc24 => ?_)
  show XE l w M_X12_init 106 [(0, .ref (w.2.1 + 503))] [] _ _
  have y24 := Y_step (fs' := [.int 0, .ref (w.2.1 + 504), .int 0, .int 0, .ref (w.2.1 + 505), .ref (w.2.1 + 506), .ref (w.2.1 + 507), .ref (w.2.1 + 508), .int 0, .ref (w.2.1 + 509), .ref (w.2.1 + 510), .ref (w.2.1 + 511), .ref (w.2.1 + 512), .ref (w.2.1 + 513), .int 0, .null, .null, .null, .int 0, .null, .int 0, .int 0, .int 0, .int 0, .null, .int 0, .int 0, .null, .int 0, .int 0, .int 0, .null, .null, .null, .null, .int 0, .int 0, .null, .null, .int 0, .null, .null, .null, .null, .null, .null, .null, .int 0]) hc24 (by decide) rfl rfl
  clear hc24
  refine XE_l (pc' := 108) (ls' := [(0, .ref (w.2.1 + 503))]) (st' := [.int 0, .ref (w.2.1 + 503)]) (fun _ k => e_aload_n dX12_init_106 0 rfl (e_iconst (v := 0) dX12_init_107 (by decide) (k))) ?_
  refine XE_put (q := 503) (k := 14) y24 (by decide) (YX_503 (lo := w.2.1) (X := X)) xc_12 dX12_init_108 fl_X12_54 (by decide) (by decide) rfl rfl rfl (fun h25 hc25 => ?_)
  show XE l w M_X12_init 111 [(0, .ref (w.2.1 + 503))] [] _ _
  have y25 := Y_put (fs' := [.int 0, .ref (w.2.1 + 504), .int 0, .int 0, .ref (w.2.1 + 505), .ref (w.2.1 + 506), .ref (w.2.1 + 507), .ref (w.2.1 + 508), .int 0, .ref (w.2.1 + 509), .ref (w.2.1 + 510), .ref (w.2.1 + 511), .ref (w.2.1 + 512), .ref (w.2.1 + 513), .int 0, .null, .null, .null, .int 0, .null, .int 0, .int 0, .int 0, .int 0, .null, .int 0, .int 0, .null, .int 0, .int 0, .int 0, .null, .null, .null, .null, .int 0, .int 0, .null, .null, .int 0, .null, .null, .null, .null, .null, .null, .null, .int 0]) hc25 rfl
  clear hc25
  refine XE_l (pc' := 115) (ls' := [(0, .ref (w.2.1 + 503))]) (st' := [.int 152, .ref (w.2.1 + 503)]) (fun _ k => e_aload_n dX12_init_111 0 rfl (e_sipush (v := 152) dX12_init_112 (by decide) (k))) ?_
  refine XE_newa (n := 514) (N := 152) y25 dX12_init_115 (x_in 222 rfl rfl) (fun C z => by cases z) (by decide) rfl (by decide) (fun h26 hc26 => ?_)
  show XE l w M_X12_init 117 [(0, .ref (w.2.1 + 503))] [.ref (w.2.1 + 514), .ref (w.2.1 + 503)] _ _
  refine XE_putF (q := 503) (k := 15) hc26 (by decide) (YX_503 (lo := w.2.1) (X := X)) xc_12 dX12_init_117 (x_in 1237 (by decide +kernel) (by decide +kernel)) (by decide) (by decide) rfl rfl rfl rfl rfl (fun h27 hc27 => ?_)
  show XE l w M_X12_init 120 [(0, .ref (w.2.1 + 503))] [] _ _
  have y27 := Y_step (fs' := [.int 0, .ref (w.2.1 + 504), .int 0, .int 0, .ref (w.2.1 + 505), .ref (w.2.1 + 506), .ref (w.2.1 + 507), .ref (w.2.1 + 508), .int 0, .ref (w.2.1 + 509), .ref (w.2.1 + 510), .ref (w.2.1 + 511), .ref (w.2.1 + 512), .ref (w.2.1 + 513), .int 0, .ref (w.2.1 + 514), .null, .null, .int 0, .null, .int 0, .int 0, .int 0, .int 0, .null, .int 0, .int 0, .null, .int 0, .int 0, .int 0, .null, .null, .null, .null, .int 0, .int 0, .null, .null, .int 0, .null, .null, .null, .null, .null, .null, .null, .int 0]) hc27 (by decide) rfl rfl
  clear hc27
  refine XE_l (pc' := 124) (ls' := [(0, .ref (w.2.1 + 503))]) (st' := [.int 152, .ref (w.2.1 + 503)]) (fun _ k => e_aload_n dX12_init_120 0 rfl (e_sipush (v := 152) dX12_init_121 (by decide) (k))) ?_
  refine XE_newa (n := 515) (N := 152) y27 dX12_init_124 (x_in 222 rfl rfl) (fun C z => by cases z) (by decide) rfl (by decide) (fun h28 hc28 => ?_)
  show XE l w M_X12_init 126 [(0, .ref (w.2.1 + 503))] [.ref (w.2.1 + 515), .ref (w.2.1 + 503)] _ _
  refine XE_putF (q := 503) (k := 16) hc28 (by decide) (YX_503 (lo := w.2.1) (X := X)) xc_12 dX12_init_126 (x_in 1238 (by decide +kernel) (by decide +kernel)) (by decide) (by decide) rfl rfl rfl rfl rfl (fun h29 hc29 => ?_)
  show XE l w M_X12_init 129 [(0, .ref (w.2.1 + 503))] [] _ _
  have y29 := Y_step (fs' := [.int 0, .ref (w.2.1 + 504), .int 0, .int 0, .ref (w.2.1 + 505), .ref (w.2.1 + 506), .ref (w.2.1 + 507), .ref (w.2.1 + 508), .int 0, .ref (w.2.1 + 509), .ref (w.2.1 + 510), .ref (w.2.1 + 511), .ref (w.2.1 + 512), .ref (w.2.1 + 513), .int 0, .ref (w.2.1 + 514), .ref (w.2.1 + 515), .null, .int 0, .null, .int 0, .int 0, .int 0, .int 0, .null, .int 0, .int 0, .null, .int 0, .int 0, .int 0, .null, .null, .null, .null, .int 0, .int 0, .null, .null, .int 0, .null, .null, .null, .null, .null, .null, .null, .int 0]) hc29 (by decide) rfl rfl
  clear hc29
  refine XE_l (pc' := 133) (ls' := [(0, .ref (w.2.1 + 503))]) (st' := [.int 152, .ref (w.2.1 + 503)]) (fun _ k => e_aload_n dX12_init_129 0 rfl (e_sipush (v := 152) dX12_init_130 (by decide) (k))) ?_
  refine XE_newa (n := 516) (N := 152) y29 dX12_init_133 (x_in 220 rfl rfl) (fun C z => by cases z) (by decide) rfl (by decide) (fun h30 hc30 => ?_)
  show XE l w M_X12_init 135 [(0, .ref (w.2.1 + 503))] [.ref (w.2.1 + 516), .ref (w.2.1 + 503)] _ _
  refine XE_putF (q := 503) (k := 17) hc30 (by decide) (YX_503 (lo := w.2.1) (X := X)) xc_12 dX12_init_135 (x_in 1239 (by decide +kernel) (by decide +kernel)) (by decide) (by decide) rfl rfl rfl rfl rfl (fun h31 hc31 => ?_)
  show XE l w M_X12_init 138 [(0, .ref (w.2.1 + 503))] [] _ _
  have y31 := Y_step (fs' := [.int 0, .ref (w.2.1 + 504), .int 0, .int 0, .ref (w.2.1 + 505), .ref (w.2.1 + 506), .ref (w.2.1 + 507), .ref (w.2.1 + 508), .int 0, .ref (w.2.1 + 509), .ref (w.2.1 + 510), .ref (w.2.1 + 511), .ref (w.2.1 + 512), .ref (w.2.1 + 513), .int 0, .ref (w.2.1 + 514), .ref (w.2.1 + 515), .ref (w.2.1 + 516), .int 0, .null, .int 0, .int 0, .int 0, .int 0, .null, .int 0, .int 0, .null, .int 0, .int 0, .int 0, .null, .null, .null, .null, .int 0, .int 0, .null, .null, .int 0, .null, .null, .null, .null, .null, .null, .null, .int 0]) hc31 (by decide) rfl rfl
  clear hc31
  refine XE_l (pc' := 140) (ls' := [(0, .ref (w.2.1 + 503))]) (st' := [.int 0, .ref (w.2.1 + 503)]) (fun _ k => e_aload_n dX12_init_138 0 rfl (e_iconst (v := 0) dX12_init_139 (by decide) (k))) ?_
  refine XE_put (q := 503) (k := 18) y31 (by decide) (YX_503 (lo := w.2.1) (X := X)) xc_12 dX12_init_140 fl_X12_66 (by decide) (by decide) rfl rfl rfl (fun h32 hc32 => ?_)
  show XE l w M_X12_init 143 [(0, .ref (w.2.1 + 503))] [] _ _
  have y32 := Y_put (fs' := [.int 0, .ref (w.2.1 + 504), .int 0, .int 0, .ref (w.2.1 + 505), .ref (w.2.1 + 506), .ref (w.2.1 + 507), .ref (w.2.1 + 508), .int 0, .ref (w.2.1 + 509), .ref (w.2.1 + 510), .ref (w.2.1 + 511), .ref (w.2.1 + 512), .ref (w.2.1 + 513), .int 0, .ref (w.2.1 + 514), .ref (w.2.1 + 515), .ref (w.2.1 + 516), .int 0, .null, .int 0, .int 0, .int 0, .int 0, .null, .int 0, .int 0, .null, .int 0, .int 0, .int 0, .null, .null, .null, .null, .int 0, .int 0, .null, .null, .int 0, .null, .null, .null, .null, .null, .null, .null, .int 0]) hc32 rfl
  clear hc32
  refine XE_l (pc' := 146) (ls' := [(0, .ref (w.2.1 + 503))]) (st' := [.int 20, .ref (w.2.1 + 503)]) (fun _ k => e_aload_n dX12_init_143 0 rfl (e_bipush (v := 20) dX12_init_144 (by decide) (k))) ?_
  refine XE_newa (n := 517) (N := 20) y32 dX12_init_146 (x_in 220 rfl rfl) (fun C z => by cases z) (by decide) rfl (by decide) (fun h33 hc33 => ?_)
  show XE l w M_X12_init 148 [(0, .ref (w.2.1 + 503))] [.ref (w.2.1 + 517), .ref (w.2.1 + 503)] _ _
  refine XE_putF (q := 503) (k := 19) hc33 (by decide) (YX_503 (lo := w.2.1) (X := X)) xc_12 dX12_init_148 (x_in 1241 (by decide +kernel) (by decide +kernel)) (by decide) (by decide) rfl rfl rfl rfl rfl (fun h34 hc34 => ?_)
  show XE l w M_X12_init 151 [(0, .ref (w.2.1 + 503))] [] _ _
  have y34 := Y_step (fs' := [.int 0, .ref (w.2.1 + 504), .int 0, .int 0, .ref (w.2.1 + 505), .ref (w.2.1 + 506), .ref (w.2.1 + 507), .ref (w.2.1 + 508), .int 0, .ref (w.2.1 + 509), .ref (w.2.1 + 510), .ref (w.2.1 + 511), .ref (w.2.1 + 512), .ref (w.2.1 + 513), .int 0, .ref (w.2.1 + 514), .ref (w.2.1 + 515), .ref (w.2.1 + 516), .int 0, .ref (w.2.1 + 517), .int 0, .int 0, .int 0, .int 0, .null, .int 0, .int 0, .null, .int 0, .int 0, .int 0, .null, .null, .null, .null, .int 0, .int 0, .null, .null, .int 0, .null, .null, .null, .null, .null, .null, .null, .int 0]) hc34 (by decide) rfl rfl
  clear hc34
  refine XE_l (pc' := 153) (ls' := [(0, .ref (w.2.1 + 503))]) (st' := [.int 0, .ref (w.2.1 + 503)]) (fun _ k => e_aload_n dX12_init_151 0 rfl (e_iconst (v := 0) dX12_init_152 (by decide) (k))) ?_
  refine XE_put (q := 503) (k := 20) y34 (by decide) (YX_503 (lo := w.2.1) (X := X)) xc_12 dX12_init_153 fl_X12_72 (by decide) (by decide) rfl rfl rfl (fun h35 hc35 => ?_)
  show XE l w M_X12_init 156 [(0, .ref (w.2.1 + 503))] [] _ _
  have y35 := Y_put (fs' := [.int 0, .ref (w.2.1 + 504), .int 0, .int 0, .ref (w.2.1 + 505), .ref (w.2.1 + 506), .ref (w.2.1 + 507), .ref (w.2.1 + 508), .int 0, .ref (w.2.1 + 509), .ref (w.2.1 + 510), .ref (w.2.1 + 511), .ref (w.2.1 + 512), .ref (w.2.1 + 513), .int 0, .ref (w.2.1 + 514), .ref (w.2.1 + 515), .ref (w.2.1 + 516), .int 0, .ref (w.2.1 + 517), .int 0, .int 0, .int 0, .int 0, .null, .int 0, .int 0, .null, .int 0, .int 0, .int 0, .null, .null, .null, .null, .int 0, .int 0, .null, .null, .int 0, .null, .null, .null, .null, .null, .null, .null, .int 0]) hc35 rfl
  clear hc35
  refine XE_l (pc' := 158) (ls' := [(0, .ref (w.2.1 + 503))]) (st' := [.int (-1), .ref (w.2.1 + 503)]) (fun _ k => e_aload_n dX12_init_156 0 rfl (e_iconst (v := (-1)) dX12_init_157 (by decide) (k))) ?_
  refine XE_put (q := 503) (k := 21) y35 (by decide) (YX_503 (lo := w.2.1) (X := X)) xc_12 dX12_init_158 fl_X12_75 (by decide) (by decide) rfl rfl rfl (fun h36 hc36 => ?_)
  show XE l w M_X12_init 161 [(0, .ref (w.2.1 + 503))] [] _ _
  have y36 := Y_put (fs' := [.int 0, .ref (w.2.1 + 504), .int 0, .int 0, .ref (w.2.1 + 505), .ref (w.2.1 + 506), .ref (w.2.1 + 507), .ref (w.2.1 + 508), .int 0, .ref (w.2.1 + 509), .ref (w.2.1 + 510), .ref (w.2.1 + 511), .ref (w.2.1 + 512), .ref (w.2.1 + 513), .int 0, .ref (w.2.1 + 514), .ref (w.2.1 + 515), .ref (w.2.1 + 516), .int 0, .ref (w.2.1 + 517), .int 0, .int (-1), .int 0, .int 0, .null, .int 0, .int 0, .null, .int 0, .int 0, .int 0, .null, .null, .null, .null, .int 0, .int 0, .null, .null, .int 0, .null, .null, .null, .null, .null, .null, .null, .int 0]) hc36 rfl
  clear hc36
  refine XE_l (pc' := 163) (ls' := [(0, .ref (w.2.1 + 503))]) (st' := [.int (-1), .ref (w.2.1 + 503)]) (fun _ k => e_aload_n dX12_init_161 0 rfl (e_iconst (v := (-1)) dX12_init_162 (by decide) (k))) ?_
  refine XE_put (q := 503) (k := 22) y36 (by decide) (YX_503 (lo := w.2.1) (X := X)) xc_12 dX12_init_163 fl_X12_78 (by decide) (by decide) rfl rfl rfl (fun h37 hc37 => ?_)
  show XE l w M_X12_init 166 [(0, .ref (w.2.1 + 503))] [] _ _
  have y37 := Y_put (fs' := [.int 0, .ref (w.2.1 + 504), .int 0, .int 0, .ref (w.2.1 + 505), .ref (w.2.1 + 506), .ref (w.2.1 + 507), .ref (w.2.1 + 508), .int 0, .ref (w.2.1 + 509), .ref (w.2.1 + 510), .ref (w.2.1 + 511), .ref (w.2.1 + 512), .ref (w.2.1 + 513), .int 0, .ref (w.2.1 + 514), .ref (w.2.1 + 515), .ref (w.2.1 + 516), .int 0, .ref (w.2.1 + 517), .int 0, .int (-1), .int (-1), .int 0, .null, .int 0, .int 0, .null, .int 0, .int 0, .int 0, .null, .null, .null, .null, .int 0, .int 0, .null, .null, .int 0, .null, .null, .null, .null, .null, .null, .null, .int 0]) hc37 rfl
  clear hc37
  refine XE_l (pc' := 168) (ls' := [(0, .ref (w.2.1 + 503))]) (st' := [.int 0, .ref (w.2.1 + 503)]) (fun _ k => e_aload_n dX12_init_166 0 rfl (e_iconst (v := 0) dX12_init_167 (by decide) (k))) ?_
  refine XE_put (q := 503) (k := 23) y37 (by decide) (YX_503 (lo := w.2.1) (X := X)) xc_12 dX12_init_168 fl_X12_81 (by decide) (by decide) rfl rfl rfl (fun h38 hc38 => ?_)
  show XE l w M_X12_init 171 [(0, .ref (w.2.1 + 503))] [] _ _
  have y38 := Y_put (fs' := [.int 0, .ref (w.2.1 + 504), .int 0, .int 0, .ref (w.2.1 + 505), .ref (w.2.1 + 506), .ref (w.2.1 + 507), .ref (w.2.1 + 508), .int 0, .ref (w.2.1 + 509), .ref (w.2.1 + 510), .ref (w.2.1 + 511), .ref (w.2.1 + 512), .ref (w.2.1 + 513), .int 0, .ref (w.2.1 + 514), .ref (w.2.1 + 515), .ref (w.2.1 + 516), .int 0, .ref (w.2.1 + 517), .int 0, .int (-1), .int (-1), .int 0, .null, .int 0, .int 0, .null, .int 0, .int 0, .int 0, .null, .null, .null, .null, .int 0, .int 0, .null, .null, .int 0, .null, .null, .null, .null, .null, .null, .null, .int 0]) hc38 rfl
  clear hc38
  refine XE_l (pc' := 175) (ls' := [(0, .ref (w.2.1 + 503))]) (st' := [.int 3000, .ref (w.2.1 + 503)]) (fun _ k => e_aload_n dX12_init_171 0 rfl (e_sipush (v := 3000) dX12_init_172 (by decide) (k))) ?_
  refine XE_newa (n := 518) (N := 3000) y38 dX12_init_175 (x_in 222 rfl rfl) (fun C z => by cases z) (by decide) rfl (by decide) (fun h39 hc39 => ?_)
  show XE l w M_X12_init 177 [(0, .ref (w.2.1 + 503))] [.ref (w.2.1 + 518), .ref (w.2.1 + 503)] _ _
  refine XE_putF (q := 503) (k := 24) hc39 (by decide) (YX_503 (lo := w.2.1) (X := X)) xc_12 dX12_init_177 (x_in 1246 (by decide +kernel) (by decide +kernel)) (by decide) (by decide) rfl rfl rfl rfl rfl (fun h40 hc40 => ?_)
  show XE l w M_X12_init 180 [(0, .ref (w.2.1 + 503))] [] _ _
  have y40 := Y_step (fs' := [.int 0, .ref (w.2.1 + 504), .int 0, .int 0, .ref (w.2.1 + 505), .ref (w.2.1 + 506), .ref (w.2.1 + 507), .ref (w.2.1 + 508), .int 0, .ref (w.2.1 + 509), .ref (w.2.1 + 510), .ref (w.2.1 + 511), .ref (w.2.1 + 512), .ref (w.2.1 + 513), .int 0, .ref (w.2.1 + 514), .ref (w.2.1 + 515), .ref (w.2.1 + 516), .int 0, .ref (w.2.1 + 517), .int 0, .int (-1), .int (-1), .int 0, .ref (w.2.1 + 518), .int 0, .int 0, .null, .int 0, .int 0, .int 0, .null, .null, .null, .null, .int 0, .int 0, .null, .null, .int 0, .null, .null, .null, .null, .null, .null, .null, .int 0]) hc40 (by decide) rfl rfl
  clear hc40
  refine XE_l (pc' := 182) (ls' := [(0, .ref (w.2.1 + 503))]) (st' := [.int 0, .ref (w.2.1 + 503)]) (fun _ k => e_aload_n dX12_init_180 0 rfl (e_iconst (v := 0) dX12_init_181 (by decide) (k))) ?_
  refine XE_put (q := 503) (k := 25) y40 (by decide) (YX_503 (lo := w.2.1) (X := X)) xc_12 dX12_init_182 fl_X12_88 (by decide) (by decide) rfl rfl rfl (fun h41 hc41 => ?_)
  show XE l w M_X12_init 185 [(0, .ref (w.2.1 + 503))] [] _ _
  have y41 := Y_put (fs' := [.int 0, .ref (w.2.1 + 504), .int 0, .int 0, .ref (w.2.1 + 505), .ref (w.2.1 + 506), .ref (w.2.1 + 507), .ref (w.2.1 + 508), .int 0, .ref (w.2.1 + 509), .ref (w.2.1 + 510), .ref (w.2.1 + 511), .ref (w.2.1 + 512), .ref (w.2.1 + 513), .int 0, .ref (w.2.1 + 514), .ref (w.2.1 + 515), .ref (w.2.1 + 516), .int 0, .ref (w.2.1 + 517), .int 0, .int (-1), .int (-1), .int 0, .ref (w.2.1 + 518), .int 0, .int 0, .null, .int 0, .int 0, .int 0, .null, .null, .null, .null, .int 0, .int 0, .null, .null, .int 0, .null, .null, .null, .null, .null, .null, .null, .int 0]) hc41 rfl
  clear hc41
  refine XE_l (pc' := 187) (ls' := [(0, .ref (w.2.1 + 503))]) (st' := [.int 0, .ref (w.2.1 + 503)]) (fun _ k => e_aload_n dX12_init_185 0 rfl (e_iconst (v := 0) dX12_init_186 (by decide) (k))) ?_
  refine XE_put (q := 503) (k := 26) y41 (by decide) (YX_503 (lo := w.2.1) (X := X)) xc_12 dX12_init_187 fl_X12_91 (by decide) (by decide) rfl rfl rfl (fun h42 hc42 => ?_)
  show XE l w M_X12_init 190 [(0, .ref (w.2.1 + 503))] [] _ _
  have y42 := Y_put (fs' := [.int 0, .ref (w.2.1 + 504), .int 0, .int 0, .ref (w.2.1 + 505), .ref (w.2.1 + 506), .ref (w.2.1 + 507), .ref (w.2.1 + 508), .int 0, .ref (w.2.1 + 509), .ref (w.2.1 + 510), .ref (w.2.1 + 511), .ref (w.2.1 + 512), .ref (w.2.1 + 513), .int 0, .ref (w.2.1 + 514), .ref (w.2.1 + 515), .ref (w.2.1 + 516), .int 0, .ref (w.2.1 + 517), .int 0, .int (-1), .int (-1), .int 0, .ref (w.2.1 + 518), .int 0, .int 0, .null, .int 0, .int 0, .int 0, .null, .null, .null, .null, .int 0, .int 0, .null, .null, .int 0, .null, .null, .null, .null, .null, .null, .null, .int 0]) hc42 rfl
  clear hc42
  refine XE_l (pc' := 194) (ls' := [(0, .ref (w.2.1 + 503))]) (st' := [.int 160, .ref (w.2.1 + 503)]) (fun _ k => e_aload_n dX12_init_190 0 rfl (e_sipush (v := 160) dX12_init_191 (by decide) (k))) ?_
  refine XE_newa (n := 519) (N := 160) y42 dX12_init_194 (x_in 222 rfl rfl) (fun C z => by cases z) (by decide) rfl (by decide) (fun h43 hc43 => ?_)
  show XE l w M_X12_init 196 [(0, .ref (w.2.1 + 503))] [.ref (w.2.1 + 519), .ref (w.2.1 + 503)] _ _
  refine XE_putF (q := 503) (k := 27) hc43 (by decide) (YX_503 (lo := w.2.1) (X := X)) xc_12 dX12_init_196 (x_in 1249 (by decide +kernel) (by decide +kernel)) (by decide) (by decide) rfl rfl rfl rfl rfl (fun h44 hc44 => ?_)
  show XE l w M_X12_init 199 [(0, .ref (w.2.1 + 503))] [] _ _
  have y44 := Y_step (fs' := [.int 0, .ref (w.2.1 + 504), .int 0, .int 0, .ref (w.2.1 + 505), .ref (w.2.1 + 506), .ref (w.2.1 + 507), .ref (w.2.1 + 508), .int 0, .ref (w.2.1 + 509), .ref (w.2.1 + 510), .ref (w.2.1 + 511), .ref (w.2.1 + 512), .ref (w.2.1 + 513), .int 0, .ref (w.2.1 + 514), .ref (w.2.1 + 515), .ref (w.2.1 + 516), .int 0, .ref (w.2.1 + 517), .int 0, .int (-1), .int (-1), .int 0, .ref (w.2.1 + 518), .int 0, .int 0, .ref (w.2.1 + 519), .int 0, .int 0, .int 0, .null, .null, .null, .null, .int 0, .int 0, .null, .null, .int 0, .null, .null, .null, .null, .null, .null, .null, .int 0]) hc44 (by decide) rfl rfl
  clear hc44
  refine XE_l (pc' := 201) (ls' := [(0, .ref (w.2.1 + 503))]) (st' := [.int 0, .ref (w.2.1 + 503)]) (fun _ k => e_aload_n dX12_init_199 0 rfl (e_iconst (v := 0) dX12_init_200 (by decide) (k))) ?_
  refine XE_put (q := 503) (k := 28) y44 (by decide) (YX_503 (lo := w.2.1) (X := X)) xc_12 dX12_init_201 fl_X12_97 (by decide) (by decide) rfl rfl rfl (fun h45 hc45 => ?_)
  show XE l w M_X12_init 204 [(0, .ref (w.2.1 + 503))] [] _ _
  have y45 := Y_put (fs' := [.int 0, .ref (w.2.1 + 504), .int 0, .int 0, .ref (w.2.1 + 505), .ref (w.2.1 + 506), .ref (w.2.1 + 507), .ref (w.2.1 + 508), .int 0, .ref (w.2.1 + 509), .ref (w.2.1 + 510), .ref (w.2.1 + 511), .ref (w.2.1 + 512), .ref (w.2.1 + 513), .int 0, .ref (w.2.1 + 514), .ref (w.2.1 + 515), .ref (w.2.1 + 516), .int 0, .ref (w.2.1 + 517), .int 0, .int (-1), .int (-1), .int 0, .ref (w.2.1 + 518), .int 0, .int 0, .ref (w.2.1 + 519), .int 0, .int 0, .int 0, .null, .null, .null, .null, .int 0, .int 0, .null, .null, .int 0, .null, .null, .null, .null, .null, .null, .null, .int 0]) hc45 rfl
  clear hc45
  refine XE_l (pc' := 206) (ls' := [(0, .ref (w.2.1 + 503))]) (st' := [.int (-1), .ref (w.2.1 + 503)]) (fun _ k => e_aload_n dX12_init_204 0 rfl (e_iconst (v := (-1)) dX12_init_205 (by decide) (k))) ?_
  refine XE_put (q := 503) (k := 29) y45 (by decide) (YX_503 (lo := w.2.1) (X := X)) xc_12 dX12_init_206 fl_X12_100 (by decide) (by decide) rfl rfl rfl (fun h46 hc46 => ?_)
  show XE l w M_X12_init 209 [(0, .ref (w.2.1 + 503))] [] _ _
  have y46 := Y_put (fs' := [.int 0, .ref (w.2.1 + 504), .int 0, .int 0, .ref (w.2.1 + 505), .ref (w.2.1 + 506), .ref (w.2.1 + 507), .ref (w.2.1 + 508), .int 0, .ref (w.2.1 + 509), .ref (w.2.1 + 510), .ref (w.2.1 + 511), .ref (w.2.1 + 512), .ref (w.2.1 + 513), .int 0, .ref (w.2.1 + 514), .ref (w.2.1 + 515), .ref (w.2.1 + 516), .int 0, .ref (w.2.1 + 517), .int 0, .int (-1), .int (-1), .int 0, .ref (w.2.1 + 518), .int 0, .int 0, .ref (w.2.1 + 519), .int 0, .int (-1), .int 0, .null, .null, .null, .null, .int 0, .int 0, .null, .null, .int 0, .null, .null, .null, .null, .null, .null, .null, .int 0]) hc46 rfl
  clear hc46
  refine XE_l (pc' := 211) (ls' := [(0, .ref (w.2.1 + 503))]) (st' := [.int 0, .ref (w.2.1 + 503)]) (fun _ k => e_aload_n dX12_init_209 0 rfl (e_iconst (v := 0) dX12_init_210 (by decide) (k))) ?_
  refine XE_put (q := 503) (k := 30) y46 (by decide) (YX_503 (lo := w.2.1) (X := X)) xc_12 dX12_init_211 fl_X12_103 (by decide) (by decide) rfl rfl rfl (fun h47 hc47 => ?_)
  show XE l w M_X12_init 214 [(0, .ref (w.2.1 + 503))] [] _ _
  have y47 := Y_put (fs' := [.int 0, .ref (w.2.1 + 504), .int 0, .int 0, .ref (w.2.1 + 505), .ref (w.2.1 + 506), .ref (w.2.1 + 507), .ref (w.2.1 + 508), .int 0, .ref (w.2.1 + 509), .ref (w.2.1 + 510), .ref (w.2.1 + 511), .ref (w.2.1 + 512), .ref (w.2.1 + 513), .int 0, .ref (w.2.1 + 514), .ref (w.2.1 + 515), .ref (w.2.1 + 516), .int 0, .ref (w.2.1 + 517), .int 0, .int (-1), .int (-1), .int 0, .ref (w.2.1 + 518), .int 0, .int 0, .ref (w.2.1 + 519), .int 0, .int (-1), .int 0, .null, .null, .null, .null, .int 0, .int 0, .null, .null, .int 0, .null, .null, .null, .null, .null, .null, .null, .int 0]) hc47 rfl
  clear hc47
  refine XE_l (pc' := 217) (ls' := [(0, .ref (w.2.1 + 503))]) (st' := [.int 12, .ref (w.2.1 + 503)]) (fun _ k => e_aload_n dX12_init_214 0 rfl (e_bipush (v := 12) dX12_init_215 (by decide) (k))) ?_
  refine XE_newa (n := 520) (N := 12) y47 dX12_init_217 (x_in 222 rfl rfl) (fun C z => by cases z) (by decide) rfl (by decide) (fun h48 hc48 => ?_)
  show XE l w M_X12_init 219 [(0, .ref (w.2.1 + 503))] [.ref (w.2.1 + 520), .ref (w.2.1 + 503)] _ _
  refine XE_putF (q := 503) (k := 31) hc48 (by decide) (YX_503 (lo := w.2.1) (X := X)) xc_12 dX12_init_219 (x_in 1253 (by decide +kernel) (by decide +kernel)) (by decide) (by decide) rfl rfl rfl rfl rfl (fun h49 hc49 => ?_)
  show XE l w M_X12_init 222 [(0, .ref (w.2.1 + 503))] [] _ _
  have y49 := Y_step (fs' := [.int 0, .ref (w.2.1 + 504), .int 0, .int 0, .ref (w.2.1 + 505), .ref (w.2.1 + 506), .ref (w.2.1 + 507), .ref (w.2.1 + 508), .int 0, .ref (w.2.1 + 509), .ref (w.2.1 + 510), .ref (w.2.1 + 511), .ref (w.2.1 + 512), .ref (w.2.1 + 513), .int 0, .ref (w.2.1 + 514), .ref (w.2.1 + 515), .ref (w.2.1 + 516), .int 0, .ref (w.2.1 + 517), .int 0, .int (-1), .int (-1), .int 0, .ref (w.2.1 + 518), .int 0, .int 0, .ref (w.2.1 + 519), .int 0, .int (-1), .int 0, .ref (w.2.1 + 520), .null, .null, .null, .int 0, .int 0, .null, .null, .int 0, .null, .null, .null, .null, .null, .null, .null, .int 0]) hc49 (by decide) rfl rfl
  clear hc49
  refine XE_l (pc' := 225) (ls' := [(0, .ref (w.2.1 + 503))]) (st' := [.int 12, .ref (w.2.1 + 503)]) (fun _ k => e_aload_n dX12_init_222 0 rfl (e_bipush (v := 12) dX12_init_223 (by decide) (k))) ?_
  refine XE_newa (n := 521) (N := 12) y49 dX12_init_225 (x_in 222 rfl rfl) (fun C z => by cases z) (by decide) rfl (by decide) (fun h50 hc50 => ?_)
  show XE l w M_X12_init 227 [(0, .ref (w.2.1 + 503))] [.ref (w.2.1 + 521), .ref (w.2.1 + 503)] _ _
  refine XE_putF (q := 503) (k := 32) hc50 (by decide) (YX_503 (lo := w.2.1) (X := X)) xc_12 dX12_init_227 (x_in 1254 (by decide +kernel) (by decide +kernel)) (by decide) (by decide) rfl rfl rfl rfl rfl (fun h51 hc51 => ?_)
  show XE l w M_X12_init 230 [(0, .ref (w.2.1 + 503))] [] _ _
  have y51 := Y_step (fs' := [.int 0, .ref (w.2.1 + 504), .int 0, .int 0, .ref (w.2.1 + 505), .ref (w.2.1 + 506), .ref (w.2.1 + 507), .ref (w.2.1 + 508), .int 0, .ref (w.2.1 + 509), .ref (w.2.1 + 510), .ref (w.2.1 + 511), .ref (w.2.1 + 512), .ref (w.2.1 + 513), .int 0, .ref (w.2.1 + 514), .ref (w.2.1 + 515), .ref (w.2.1 + 516), .int 0, .ref (w.2.1 + 517), .int 0, .int (-1), .int (-1), .int 0, .ref (w.2.1 + 518), .int 0, .int 0, .ref (w.2.1 + 519), .int 0, .int (-1), .int 0, .ref (w.2.1 + 520), .ref (w.2.1 + 521), .null, .null, .int 0, .int 0, .null, .null, .int 0, .null, .null, .null, .null, .null, .null, .null, .int 0]) hc51 (by decide) rfl rfl
  clear hc51
  refine XE_l (pc' := 233) (ls' := [(0, .ref (w.2.1 + 503))]) (st' := [.int 12, .ref (w.2.1 + 503)]) (fun _ k => e_aload_n dX12_init_230 0 rfl (e_bipush (v := 12) dX12_init_231 (by decide) (k))) ?_
  refine XE_newa (n := 522) (N := 12) y51 dX12_init_233 (x_in 222 rfl rfl) (fun C z => by cases z) (by decide) rfl (by decide) (fun h52 hc52 => ?_)
  show XE l w M_X12_init 235 [(0, .ref (w.2.1 + 503))] [.ref (w.2.1 + 522), .ref (w.2.1 + 503)] _ _
  refine XE_putF (q := 503) (k := 33) hc52 (by decide) (YX_503 (lo := w.2.1) (X := X)) xc_12 dX12_init_235 (x_in 1255 (by decide +kernel) (by decide +kernel)) (by decide) (by decide) rfl rfl rfl rfl rfl (fun h53 hc53 => ?_)
  show XE l w M_X12_init 238 [(0, .ref (w.2.1 + 503))] [] _ _
  have y53 := Y_step (fs' := [.int 0, .ref (w.2.1 + 504), .int 0, .int 0, .ref (w.2.1 + 505), .ref (w.2.1 + 506), .ref (w.2.1 + 507), .ref (w.2.1 + 508), .int 0, .ref (w.2.1 + 509), .ref (w.2.1 + 510), .ref (w.2.1 + 511), .ref (w.2.1 + 512), .ref (w.2.1 + 513), .int 0, .ref (w.2.1 + 514), .ref (w.2.1 + 515), .ref (w.2.1 + 516), .int 0, .ref (w.2.1 + 517), .int 0, .int (-1), .int (-1), .int 0, .ref (w.2.1 + 518), .int 0, .int 0, .ref (w.2.1 + 519), .int 0, .int (-1), .int 0, .ref (w.2.1 + 520), .ref (w.2.1 + 521), .ref (w.2.1 + 522), .null, .int 0, .int 0, .null, .null, .int 0, .null, .null, .null, .null, .null, .null, .null, .int 0]) hc53 (by decide) rfl rfl
  clear hc53
  refine XE_l (pc' := 241) (ls' := [(0, .ref (w.2.1 + 503))]) (st' := [.int 12, .ref (w.2.1 + 503)]) (fun _ k => e_aload_n dX12_init_238 0 rfl (e_bipush (v := 12) dX12_init_239 (by decide) (k))) ?_
  refine XE_newa (n := 523) (N := 12) y53 dX12_init_241 (x_in 222 rfl rfl) (fun C z => by cases z) (by decide) rfl (by decide) (fun h54 hc54 => ?_)
  show XE l w M_X12_init 243 [(0, .ref (w.2.1 + 503))] [.ref (w.2.1 + 523), .ref (w.2.1 + 503)] _ _
  refine XE_putF (q := 503) (k := 34) hc54 (by decide) (YX_503 (lo := w.2.1) (X := X)) xc_12 dX12_init_243 (x_in 1256 (by decide +kernel) (by decide +kernel)) (by decide) (by decide) rfl rfl rfl rfl rfl (fun h55 hc55 => ?_)
  show XE l w M_X12_init 246 [(0, .ref (w.2.1 + 503))] [] _ _
  have y55 := Y_step (fs' := [.int 0, .ref (w.2.1 + 504), .int 0, .int 0, .ref (w.2.1 + 505), .ref (w.2.1 + 506), .ref (w.2.1 + 507), .ref (w.2.1 + 508), .int 0, .ref (w.2.1 + 509), .ref (w.2.1 + 510), .ref (w.2.1 + 511), .ref (w.2.1 + 512), .ref (w.2.1 + 513), .int 0, .ref (w.2.1 + 514), .ref (w.2.1 + 515), .ref (w.2.1 + 516), .int 0, .ref (w.2.1 + 517), .int 0, .int (-1), .int (-1), .int 0, .ref (w.2.1 + 518), .int 0, .int 0, .ref (w.2.1 + 519), .int 0, .int (-1), .int 0, .ref (w.2.1 + 520), .ref (w.2.1 + 521), .ref (w.2.1 + 522), .ref (w.2.1 + 523), .int 0, .int 0, .null, .null, .int 0, .null, .null, .null, .null, .null, .null, .null, .int 0]) hc55 (by decide) rfl rfl
  clear hc55
  refine XE_l (pc' := 248) (ls' := [(0, .ref (w.2.1 + 503))]) (st' := [.int 0, .ref (w.2.1 + 503)]) (fun _ k => e_aload_n dX12_init_246 0 rfl (e_iconst (v := 0) dX12_init_247 (by decide) (k))) ?_
  refine XE_put (q := 503) (k := 35) y55 (by decide) (YX_503 (lo := w.2.1) (X := X)) xc_12 dX12_init_248 fl_X12_118 (by decide) (by decide) rfl rfl rfl (fun h56 hc56 => ?_)
  show XE l w M_X12_init 251 [(0, .ref (w.2.1 + 503))] [] _ _
  have y56 := Y_put (fs' := [.int 0, .ref (w.2.1 + 504), .int 0, .int 0, .ref (w.2.1 + 505), .ref (w.2.1 + 506), .ref (w.2.1 + 507), .ref (w.2.1 + 508), .int 0, .ref (w.2.1 + 509), .ref (w.2.1 + 510), .ref (w.2.1 + 511), .ref (w.2.1 + 512), .ref (w.2.1 + 513), .int 0, .ref (w.2.1 + 514), .ref (w.2.1 + 515), .ref (w.2.1 + 516), .int 0, .ref (w.2.1 + 517), .int 0, .int (-1), .int (-1), .int 0, .ref (w.2.1 + 518), .int 0, .int 0, .ref (w.2.1 + 519), .int 0, .int (-1), .int 0, .ref (w.2.1 + 520), .ref (w.2.1 + 521), .ref (w.2.1 + 522), .ref (w.2.1 + 523), .int 0, .int 0, .null, .null, .int 0, .null, .null, .null, .null, .null, .null, .null, .int 0]) hc56 rfl
  clear hc56
  refine XE_l (pc' := 253) (ls' := [(0, .ref (w.2.1 + 503))]) (st' := [.int 0, .ref (w.2.1 + 503)]) (fun _ k => e_aload_n dX12_init_251 0 rfl (e_iconst (v := 0) dX12_init_252 (by decide) (k))) ?_
  refine XE_put (q := 503) (k := 36) y56 (by decide) (YX_503 (lo := w.2.1) (X := X)) xc_12 dX12_init_253 fl_X12_121 (by decide) (by decide) rfl rfl rfl (fun h57 hc57 => ?_)
  show XE l w M_X12_init 256 [(0, .ref (w.2.1 + 503))] [] _ _
  have y57 := Y_put (fs' := [.int 0, .ref (w.2.1 + 504), .int 0, .int 0, .ref (w.2.1 + 505), .ref (w.2.1 + 506), .ref (w.2.1 + 507), .ref (w.2.1 + 508), .int 0, .ref (w.2.1 + 509), .ref (w.2.1 + 510), .ref (w.2.1 + 511), .ref (w.2.1 + 512), .ref (w.2.1 + 513), .int 0, .ref (w.2.1 + 514), .ref (w.2.1 + 515), .ref (w.2.1 + 516), .int 0, .ref (w.2.1 + 517), .int 0, .int (-1), .int (-1), .int 0, .ref (w.2.1 + 518), .int 0, .int 0, .ref (w.2.1 + 519), .int 0, .int (-1), .int 0, .ref (w.2.1 + 520), .ref (w.2.1 + 521), .ref (w.2.1 + 522), .ref (w.2.1 + 523), .int 0, .int 0, .null, .null, .int 0, .null, .null, .null, .null, .null, .null, .null, .int 0]) hc57 rfl
  clear hc57
  refine XE_l (pc' := 260) (ls' := [(0, .ref (w.2.1 + 503))]) (st' := [.int 200, .ref (w.2.1 + 503)]) (fun _ k => e_aload_n dX12_init_256 0 rfl (e_sipush (v := 200) dX12_init_257 (by decide) (k))) ?_
  refine XE_newa (n := 524) (N := 200) y57 dX12_init_260 (x_in 222 rfl rfl) (fun C z => by cases z) (by decide) rfl (by decide) (fun h58 hc58 => ?_)
  show XE l w M_X12_init 262 [(0, .ref (w.2.1 + 503))] [.ref (w.2.1 + 524), .ref (w.2.1 + 503)] _ _
  refine XE_putF (q := 503) (k := 37) hc58 (by decide) (YX_503 (lo := w.2.1) (X := X)) xc_12 dX12_init_262 (x_in 1259 (by decide +kernel) (by decide +kernel)) (by decide) (by decide) rfl rfl rfl rfl rfl (fun h59 hc59 => ?_)
  show XE l w M_X12_init 265 [(0, .ref (w.2.1 + 503))] [] _ _
  have y59 := Y_step (fs' := [.int 0, .ref (w.2.1 + 504), .int 0, .int 0, .ref (w.2.1 + 505), .ref (w.2.1 + 506), .ref (w.2.1 + 507), .ref (w.2.1 + 508), .int 0, .ref (w.2.1 + 509), .ref (w.2.1 + 510), .ref (w.2.1 + 511), .ref (w.2.1 + 512), .ref (w.2.1 + 513), .int 0, .ref (w.2.1 + 514), .ref (w.2.1 + 515), .ref (w.2.1 + 516), .int 0, .ref (w.2.1 + 517), .int 0, .int (-1), .int (-1), .int 0, .ref (w.2.1 + 518), .int 0, .int 0, .ref (w.2.1 + 519), .int 0, .int (-1), .int 0, .ref (w.2.1 + 520), .ref (w.2.1 + 521), .ref (w.2.1 + 522), .ref (w.2.1 + 523), .int 0, .int 0, .ref (w.2.1 + 524), .null, .int 0, .null, .null, .null, .null, .null, .null, .null, .int 0]) hc59 (by decide) rfl rfl
  clear hc59
  refine XE_l (pc' := 268) (ls' := [(0, .ref (w.2.1 + 503))]) (st' := [.int 8, .ref (w.2.1 + 503)]) (fun _ k => e_aload_n dX12_init_265 0 rfl (e_bipush (v := 8) dX12_init_266 (by decide) (k))) ?_
  refine XE_newa (n := 525) (N := 8) y59 dX12_init_268 (x_in 222 rfl rfl) (fun C z => by cases z) (by decide) rfl (by decide) (fun h60 hc60 => ?_)
  show XE l w M_X12_init 270 [(0, .ref (w.2.1 + 503))] [.ref (w.2.1 + 525), .ref (w.2.1 + 503)] _ _
  refine XE_putF (q := 503) (k := 38) hc60 (by decide) (YX_503 (lo := w.2.1) (X := X)) xc_12 dX12_init_270 (x_in 1260 (by decide +kernel) (by decide +kernel)) (by decide) (by decide) rfl rfl rfl rfl rfl (fun h61 hc61 => ?_)
  show XE l w M_X12_init 273 [(0, .ref (w.2.1 + 503))] [] _ _
  have y61 := Y_step (fs' := [.int 0, .ref (w.2.1 + 504), .int 0, .int 0, .ref (w.2.1 + 505), .ref (w.2.1 + 506), .ref (w.2.1 + 507), .ref (w.2.1 + 508), .int 0, .ref (w.2.1 + 509), .ref (w.2.1 + 510), .ref (w.2.1 + 511), .ref (w.2.1 + 512), .ref (w.2.1 + 513), .int 0, .ref (w.2.1 + 514), .ref (w.2.1 + 515), .ref (w.2.1 + 516), .int 0, .ref (w.2.1 + 517), .int 0, .int (-1), .int (-1), .int 0, .ref (w.2.1 + 518), .int 0, .int 0, .ref (w.2.1 + 519), .int 0, .int (-1), .int 0, .ref (w.2.1 + 520), .ref (w.2.1 + 521), .ref (w.2.1 + 522), .ref (w.2.1 + 523), .int 0, .int 0, .ref (w.2.1 + 524), .ref (w.2.1 + 525), .int 0, .null, .null, .null, .null, .null, .null, .null, .int 0]) hc61 (by decide) rfl rfl
  clear hc61
  refine XE_l (pc' := 275) (ls' := [(0, .ref (w.2.1 + 503))]) (st' := [.int 0, .ref (w.2.1 + 503)]) (fun _ k => e_aload_n dX12_init_273 0 rfl (e_iconst (v := 0) dX12_init_274 (by decide) (k))) ?_
  refine XE_put (q := 503) (k := 39) y61 (by decide) (YX_503 (lo := w.2.1) (X := X)) xc_12 dX12_init_275 fl_X12_130 (by decide) (by decide) rfl rfl rfl (fun h62 hc62 => ?_)
  show XE l w M_X12_init 278 [(0, .ref (w.2.1 + 503))] [] _ _
  have y62 := Y_put (fs' := [.int 0, .ref (w.2.1 + 504), .int 0, .int 0, .ref (w.2.1 + 505), .ref (w.2.1 + 506), .ref (w.2.1 + 507), .ref (w.2.1 + 508), .int 0, .ref (w.2.1 + 509), .ref (w.2.1 + 510), .ref (w.2.1 + 511), .ref (w.2.1 + 512), .ref (w.2.1 + 513), .int 0, .ref (w.2.1 + 514), .ref (w.2.1 + 515), .ref (w.2.1 + 516), .int 0, .ref (w.2.1 + 517), .int 0, .int (-1), .int (-1), .int 0, .ref (w.2.1 + 518), .int 0, .int 0, .ref (w.2.1 + 519), .int 0, .int (-1), .int 0, .ref (w.2.1 + 520), .ref (w.2.1 + 521), .ref (w.2.1 + 522), .ref (w.2.1 + 523), .int 0, .int 0, .ref (w.2.1 + 524), .ref (w.2.1 + 525), .int 0, .null, .null, .null, .null, .null, .null, .null, .int 0]) hc62 rfl
  clear hc62
  refine XE_l (pc' := 282) (ls' := [(0, .ref (w.2.1 + 503))]) (st' := [.int 768, .ref (w.2.1 + 503)]) (fun _ k => e_aload_n dX12_init_278 0 rfl (e_sipush (v := 768) dX12_init_279 (by decide) (k))) ?_
  refine XE_newa (n := 526) (N := 768) y62 dX12_init_282 (x_in 222 rfl rfl) (fun C z => by cases z) (by decide) rfl (by decide) (fun h63 hc63 => ?_)
  show XE l w M_X12_init 284 [(0, .ref (w.2.1 + 503))] [.ref (w.2.1 + 526), .ref (w.2.1 + 503)] _ _
  refine XE_putF (q := 503) (k := 40) hc63 (by decide) (YX_503 (lo := w.2.1) (X := X)) xc_12 dX12_init_284 (x_in 1262 (by decide +kernel) (by decide +kernel)) (by decide) (by decide) rfl rfl rfl rfl rfl (fun h64 hc64 => ?_)
  show XE l w M_X12_init 287 [(0, .ref (w.2.1 + 503))] [] _ _
  have y64 := Y_step (fs' := [.int 0, .ref (w.2.1 + 504), .int 0, .int 0, .ref (w.2.1 + 505), .ref (w.2.1 + 506), .ref (w.2.1 + 507), .ref (w.2.1 + 508), .int 0, .ref (w.2.1 + 509), .ref (w.2.1 + 510), .ref (w.2.1 + 511), .ref (w.2.1 + 512), .ref (w.2.1 + 513), .int 0, .ref (w.2.1 + 514), .ref (w.2.1 + 515), .ref (w.2.1 + 516), .int 0, .ref (w.2.1 + 517), .int 0, .int (-1), .int (-1), .int 0, .ref (w.2.1 + 518), .int 0, .int 0, .ref (w.2.1 + 519), .int 0, .int (-1), .int 0, .ref (w.2.1 + 520), .ref (w.2.1 + 521), .ref (w.2.1 + 522), .ref (w.2.1 + 523), .int 0, .int 0, .ref (w.2.1 + 524), .ref (w.2.1 + 525), .int 0, .ref (w.2.1 + 526), .null, .null, .null, .null, .null, .null, .int 0]) hc64 (by decide) rfl rfl
  clear hc64
  refine XE_l (pc' := 291) (ls' := [(0, .ref (w.2.1 + 503))]) (st' := [.int 768, .ref (w.2.1 + 503)]) (fun _ k => e_aload_n dX12_init_287 0 rfl (e_sipush (v := 768) dX12_init_288 (by decide) (k))) ?_
  refine XE_newa (n := 527) (N := 768) y64 dX12_init_291 (x_in 222 rfl rfl) (fun C z => by cases z) (by decide) rfl (by decide) (fun h65 hc65 => ?_)
  show XE l w M_X12_init 293 [(0, .ref (w.2.1 + 503))] [.ref (w.2.1 + 527), .ref (w.2.1 + 503)] _ _
  refine XE_putF (q := 503) (k := 41) hc65 (by decide) (YX_503 (lo := w.2.1) (X := X)) xc_12 dX12_init_293 (x_in 1263 (by decide +kernel) (by decide +kernel)) (by decide) (by decide) rfl rfl rfl rfl rfl (fun h66 hc66 => ?_)
  show XE l w M_X12_init 296 [(0, .ref (w.2.1 + 503))] [] _ _
  have y66 := Y_step (fs' := [.int 0, .ref (w.2.1 + 504), .int 0, .int 0, .ref (w.2.1 + 505), .ref (w.2.1 + 506), .ref (w.2.1 + 507), .ref (w.2.1 + 508), .int 0, .ref (w.2.1 + 509), .ref (w.2.1 + 510), .ref (w.2.1 + 511), .ref (w.2.1 + 512), .ref (w.2.1 + 513), .int 0, .ref (w.2.1 + 514), .ref (w.2.1 + 515), .ref (w.2.1 + 516), .int 0, .ref (w.2.1 + 517), .int 0, .int (-1), .int (-1), .int 0, .ref (w.2.1 + 518), .int 0, .int 0, .ref (w.2.1 + 519), .int 0, .int (-1), .int 0, .ref (w.2.1 + 520), .ref (w.2.1 + 521), .ref (w.2.1 + 522), .ref (w.2.1 + 523), .int 0, .int 0, .ref (w.2.1 + 524), .ref (w.2.1 + 525), .int 0, .ref (w.2.1 + 526), .ref (w.2.1 + 527), .null, .null, .null, .null, .null, .int 0]) hc66 (by decide) rfl rfl
  clear hc66
  refine XE_l (pc' := 299) (ls' := [(0, .ref (w.2.1 + 503))]) (st' := [.int 12, .ref (w.2.1 + 503)]) (fun _ k => e_aload_n dX12_init_296 0 rfl (e_bipush (v := 12) dX12_init_297 (by decide) (k))) ?_
  refine XE_newa (n := 528) (N := 12) y66 dX12_init_299 (x_in 222 rfl rfl) (fun C z => by cases z) (by decide) rfl (by decide) (fun h67 hc67 => ?_)
  show XE l w M_X12_init 301 [(0, .ref (w.2.1 + 503))] [.ref (w.2.1 + 528), .ref (w.2.1 + 503)] _ _
  refine XE_putF (q := 503) (k := 42) hc67 (by decide) (YX_503 (lo := w.2.1) (X := X)) xc_12 dX12_init_301 (x_in 1264 (by decide +kernel) (by decide +kernel)) (by decide) (by decide) rfl rfl rfl rfl rfl (fun h68 hc68 => ?_)
  show XE l w M_X12_init 304 [(0, .ref (w.2.1 + 503))] [] _ _
  have y68 := Y_step (fs' := [.int 0, .ref (w.2.1 + 504), .int 0, .int 0, .ref (w.2.1 + 505), .ref (w.2.1 + 506), .ref (w.2.1 + 507), .ref (w.2.1 + 508), .int 0, .ref (w.2.1 + 509), .ref (w.2.1 + 510), .ref (w.2.1 + 511), .ref (w.2.1 + 512), .ref (w.2.1 + 513), .int 0, .ref (w.2.1 + 514), .ref (w.2.1 + 515), .ref (w.2.1 + 516), .int 0, .ref (w.2.1 + 517), .int 0, .int (-1), .int (-1), .int 0, .ref (w.2.1 + 518), .int 0, .int 0, .ref (w.2.1 + 519), .int 0, .int (-1), .int 0, .ref (w.2.1 + 520), .ref (w.2.1 + 521), .ref (w.2.1 + 522), .ref (w.2.1 + 523), .int 0, .int 0, .ref (w.2.1 + 524), .ref (w.2.1 + 525), .int 0, .ref (w.2.1 + 526), .ref (w.2.1 + 527), .ref (w.2.1 + 528), .null, .null, .null, .null, .int 0]) hc68 (by decide) rfl rfl
  clear hc68
  refine XE_l (pc' := 307) (ls' := [(0, .ref (w.2.1 + 503))]) (st' := [.int 12, .ref (w.2.1 + 503)]) (fun _ k => e_aload_n dX12_init_304 0 rfl (e_bipush (v := 12) dX12_init_305 (by decide) (k))) ?_
  refine XE_newa (n := 529) (N := 12) y68 dX12_init_307 (x_in 222 rfl rfl) (fun C z => by cases z) (by decide) rfl (by decide) (fun h69 hc69 => ?_)
  show XE l w M_X12_init 309 [(0, .ref (w.2.1 + 503))] [.ref (w.2.1 + 529), .ref (w.2.1 + 503)] _ _
  refine XE_putF (q := 503) (k := 43) hc69 (by decide) (YX_503 (lo := w.2.1) (X := X)) xc_12 dX12_init_309 (x_in 1265 (by decide +kernel) (by decide +kernel)) (by decide) (by decide) rfl rfl rfl rfl rfl (fun h70 hc70 => ?_)
  show XE l w M_X12_init 312 [(0, .ref (w.2.1 + 503))] [] _ _
  have y70 := Y_step (fs' := [.int 0, .ref (w.2.1 + 504), .int 0, .int 0, .ref (w.2.1 + 505), .ref (w.2.1 + 506), .ref (w.2.1 + 507), .ref (w.2.1 + 508), .int 0, .ref (w.2.1 + 509), .ref (w.2.1 + 510), .ref (w.2.1 + 511), .ref (w.2.1 + 512), .ref (w.2.1 + 513), .int 0, .ref (w.2.1 + 514), .ref (w.2.1 + 515), .ref (w.2.1 + 516), .int 0, .ref (w.2.1 + 517), .int 0, .int (-1), .int (-1), .int 0, .ref (w.2.1 + 518), .int 0, .int 0, .ref (w.2.1 + 519), .int 0, .int (-1), .int 0, .ref (w.2.1 + 520), .ref (w.2.1 + 521), .ref (w.2.1 + 522), .ref (w.2.1 + 523), .int 0, .int 0, .ref (w.2.1 + 524), .ref (w.2.1 + 525), .int 0, .ref (w.2.1 + 526), .ref (w.2.1 + 527), .ref (w.2.1 + 528), .ref (w.2.1 + 529), .null, .null, .null, .int 0]) hc70 (by decide) rfl rfl
  clear hc70
  refine XE_l (pc' := 316) (ls' := [(0, .ref (w.2.1 + 503))]) (st' := [.int 384, .ref (w.2.1 + 503)]) (fun _ k => e_aload_n dX12_init_312 0 rfl (e_sipush (v := 384) dX12_init_313 (by decide) (k))) ?_
  refine XE_newa (n := 530) (N := 384) y70 dX12_init_316 (x_in 222 rfl rfl) (fun C z => by cases z) (by decide) rfl (by decide) (fun h71 hc71 => ?_)
  show XE l w M_X12_init 318 [(0, .ref (w.2.1 + 503))] [.ref (w.2.1 + 530), .ref (w.2.1 + 503)] _ _
  refine XE_putF (q := 503) (k := 44) hc71 (by decide) (YX_503 (lo := w.2.1) (X := X)) xc_12 dX12_init_318 (x_in 1266 (by decide +kernel) (by decide +kernel)) (by decide) (by decide) rfl rfl rfl rfl rfl (fun h72 hc72 => ?_)
  show XE l w M_X12_init 321 [(0, .ref (w.2.1 + 503))] [] _ _
  have y72 := Y_step (fs' := [.int 0, .ref (w.2.1 + 504), .int 0, .int 0, .ref (w.2.1 + 505), .ref (w.2.1 + 506), .ref (w.2.1 + 507), .ref (w.2.1 + 508), .int 0, .ref (w.2.1 + 509), .ref (w.2.1 + 510), .ref (w.2.1 + 511), .ref (w.2.1 + 512), .ref (w.2.1 + 513), .int 0, .ref (w.2.1 + 514), .ref (w.2.1 + 515), .ref (w.2.1 + 516), .int 0, .ref (w.2.1 + 517), .int 0, .int (-1), .int (-1), .int 0, .ref (w.2.1 + 518), .int 0, .int 0, .ref (w.2.1 + 519), .int 0, .int (-1), .int 0, .ref (w.2.1 + 520), .ref (w.2.1 + 521), .ref (w.2.1 + 522), .ref (w.2.1 + 523), .int 0, .int 0, .ref (w.2.1 + 524), .ref (w.2.1 + 525), .int 0, .ref (w.2.1 + 526), .ref (w.2.1 + 527), .ref (w.2.1 + 528), .ref (w.2.1 + 529), .ref (w.2.1 + 530), .null, .null, .int 0]) hc72 (by decide) rfl rfl
  clear hc72
  refine XE_l (pc' := 324) (ls' := [(0, .ref (w.2.1 + 503))]) (st' := [.int 64, .ref (w.2.1 + 503)]) (fun _ k => e_aload_n dX12_init_321 0 rfl (e_bipush (v := 64) dX12_init_322 (by decide) (k))) ?_
  refine XE_newa (n := 531) (N := 64) y72 dX12_init_324 (x_in 1367 rfl rfl) (fun C z => by cases z) (by decide) rfl (by decide) (fun h73 hc73 => ?_)
  show XE l w M_X12_init 326 [(0, .ref (w.2.1 + 503))] [.ref (w.2.1 + 531), .ref (w.2.1 + 503)] _ _
  refine XE_putF (q := 503) (k := 45) hc73 (by decide) (YX_503 (lo := w.2.1) (X := X)) xc_12 dX12_init_326 (x_in 1267 (by decide +kernel) (by decide +kernel)) (by decide) (by decide) rfl rfl rfl rfl rfl (fun h74 hc74 => ?_)
  show XE l w M_X12_init 329 [(0, .ref (w.2.1 + 503))] [] _ _
  have y74 := Y_step (fs' := [.int 0, .ref (w.2.1 + 504), .int 0, .int 0, .ref (w.2.1 + 505), .ref (w.2.1 + 506), .ref (w.2.1 + 507), .ref (w.2.1 + 508), .int 0, .ref (w.2.1 + 509), .ref (w.2.1 + 510), .ref (w.2.1 + 511), .ref (w.2.1 + 512), .ref (w.2.1 + 513), .int 0, .ref (w.2.1 + 514), .ref (w.2.1 + 515), .ref (w.2.1 + 516), .int 0, .ref (w.2.1 + 517), .int 0, .int (-1), .int (-1), .int 0, .ref (w.2.1 + 518), .int 0, .int 0, .ref (w.2.1 + 519), .int 0, .int (-1), .int 0, .ref (w.2.1 + 520), .ref (w.2.1 + 521), .ref (w.2.1 + 522), .ref (w.2.1 + 523), .int 0, .int 0, .ref (w.2.1 + 524), .ref (w.2.1 + 525), .int 0, .ref (w.2.1 + 526), .ref (w.2.1 + 527), .ref (w.2.1 + 528), .ref (w.2.1 + 529), .ref (w.2.1 + 530), .ref (w.2.1 + 531), .null, .int 0]) hc74 (by decide) rfl rfl
  clear hc74
  refine XE_l (pc' := 332) (ls' := [(0, .ref (w.2.1 + 503))]) (st' := [.int 64, .ref (w.2.1 + 503)]) (fun _ k => e_aload_n dX12_init_329 0 rfl (e_bipush (v := 64) dX12_init_330 (by decide) (k))) ?_
  refine XE_newa (n := 532) (N := 64) y74 dX12_init_332 (x_in 222 rfl rfl) (fun C z => by cases z) (by decide) rfl (by decide) (fun h75 hc75 => ?_)
  show XE l w M_X12_init 334 [(0, .ref (w.2.1 + 503))] [.ref (w.2.1 + 532), .ref (w.2.1 + 503)] _ _
  refine XE_putF (q := 503) (k := 46) hc75 (by decide) (YX_503 (lo := w.2.1) (X := X)) xc_12 dX12_init_334 (x_in 1268 (by decide +kernel) (by decide +kernel)) (by decide) (by decide) rfl rfl rfl rfl rfl (fun h76 hc76 => ?_)
  show XE l w M_X12_init 337 [(0, .ref (w.2.1 + 503))] [] _ _
  have y76 := Y_step (fs' := [.int 0, .ref (w.2.1 + 504), .int 0, .int 0, .ref (w.2.1 + 505), .ref (w.2.1 + 506), .ref (w.2.1 + 507), .ref (w.2.1 + 508), .int 0, .ref (w.2.1 + 509), .ref (w.2.1 + 510), .ref (w.2.1 + 511), .ref (w.2.1 + 512), .ref (w.2.1 + 513), .int 0, .ref (w.2.1 + 514), .ref (w.2.1 + 515), .ref (w.2.1 + 516), .int 0, .ref (w.2.1 + 517), .int 0, .int (-1), .int (-1), .int 0, .ref (w.2.1 + 518), .int 0, .int 0, .ref (w.2.1 + 519), .int 0, .int (-1), .int 0, .ref (w.2.1 + 520), .ref (w.2.1 + 521), .ref (w.2.1 + 522), .ref (w.2.1 + 523), .int 0, .int 0, .ref (w.2.1 + 524), .ref (w.2.1 + 525), .int 0, .ref (w.2.1 + 526), .ref (w.2.1 + 527), .ref (w.2.1 + 528), .ref (w.2.1 + 529), .ref (w.2.1 + 530), .ref (w.2.1 + 531), .ref (w.2.1 + 532), .int 0]) hc76 (by decide) rfl rfl
  clear hc76
  refine XE_l (pc' := 339) (ls' := [(0, .ref (w.2.1 + 503))]) (st' := [.int 0, .ref (w.2.1 + 503)]) (fun _ k => e_aload_n dX12_init_337 0 rfl (e_iconst (v := 0) dX12_init_338 (by decide) (k))) ?_
  refine XE_put (q := 503) (k := 47) y76 (by decide) (YX_503 (lo := w.2.1) (X := X)) xc_12 dX12_init_339 fl_X12_155 (by decide) (by decide) rfl rfl rfl (fun h77 hc77 => ?_)
  show XE l w M_X12_init 342 [(0, .ref (w.2.1 + 503))] [] _ _
  have y77 := Y_put (fs' := [.int 0, .ref (w.2.1 + 504), .int 0, .int 0, .ref (w.2.1 + 505), .ref (w.2.1 + 506), .ref (w.2.1 + 507), .ref (w.2.1 + 508), .int 0, .ref (w.2.1 + 509), .ref (w.2.1 + 510), .ref (w.2.1 + 511), .ref (w.2.1 + 512), .ref (w.2.1 + 513), .int 0, .ref (w.2.1 + 514), .ref (w.2.1 + 515), .ref (w.2.1 + 516), .int 0, .ref (w.2.1 + 517), .int 0, .int (-1), .int (-1), .int 0, .ref (w.2.1 + 518), .int 0, .int 0, .ref (w.2.1 + 519), .int 0, .int (-1), .int 0, .ref (w.2.1 + 520), .ref (w.2.1 + 521), .ref (w.2.1 + 522), .ref (w.2.1 + 523), .int 0, .int 0, .ref (w.2.1 + 524), .ref (w.2.1 + 525), .int 0, .ref (w.2.1 + 526), .ref (w.2.1 + 527), .ref (w.2.1 + 528), .ref (w.2.1 + 529), .ref (w.2.1 + 530), .ref (w.2.1 + 531), .ref (w.2.1 + 532), .int 0]) hc77 rfl
  clear hc77
  exact kk _ (Y_end (CI_s y77 (by omega)) rfl)
set_option maxRecDepth 100000 in
set_option maxHeartbeats 4000000 in
theorem ct_X12w0 {l : Launch} {w : xW} {g X : Nat → xE} {h : xH} {sl : Nat} {F : xO × xH → Prop} (hc : CI w g h 533 sl (WX w.2.1 X 0)) (kk : ∀ h', CI w g h' 533 sl (WX w.2.1 X 1) → XE l w M_X12_init 350 [(0, .ref (w.2.1 + 503))] [] h' F) : XE l w M_X12_init 342 [(0, .ref (w.2.1 + 503))] [] h F := by
  refine XE_l (pc' := 347) (ls' := [(0, .ref (w.2.1 + 503))]) (st' := [.long (1802071652), .int (nn 0), .ref (w.2.1 + 503)]) (fun _ k => e_aload_n dX12_init_342 0 rfl (e_iconst (v := nn 0) dX12_init_343 (by decide) (e_ldc2 dX12_init_344 kj_X12_158 k))) ?_
  exact XE_callO (q := 503) (as := [.int (nn 0), .long (1802071652)]) (rest := []) (P := fun h => CI w g h 533 sl (WX w.2.1 X 1)) hc (by decide) (WX_503 (i := 0)) xc_12 dX12_init_347 cs_X12_init_X12_wordIs ml_X12_160 im_X12_wordIs se_X12_wordIs rfl rfl (Nat.le_of_ble_eq_true rfl) (Nat.le_of_ble_eq_true rfl) (ct_wi (i := 0) hc (by decide) (by decide +kernel)) kk
set_option maxRecDepth 100000 in
set_option maxHeartbeats 4000000 in
theorem ct_X12w1 {l : Launch} {w : xW} {g X : Nat → xE} {h : xH} {sl : Nat} {F : xO × xH → Prop} (hc : CI w g h 533 sl (WX w.2.1 X 1)) (kk : ∀ h', CI w g h' 533 sl (WX w.2.1 X 2) → XE l w M_X12_init 358 [(0, .ref (w.2.1 + 503))] [] h' F) : XE l w M_X12_init 350 [(0, .ref (w.2.1 + 503))] [] h F := by
  refine XE_l (pc' := 355) (ls' := [(0, .ref (w.2.1 + 503))]) (st' := [.long (115923103347316), .int (nn 1), .ref (w.2.1 + 503)]) (fun _ k => e_aload_n dX12_init_350 0 rfl (e_iconst (v := nn 1) dX12_init_351 (by decide) (e_ldc2 dX12_init_352 kj_X12_164 k))) ?_
  exact XE_callO (q := 503) (as := [.int (nn 1), .long (115923103347316)]) (rest := []) (P := fun h => CI w g h 533 sl (WX w.2.1 X 2)) hc (by decide) (WX_503 (i := 1)) xc_12 dX12_init_355 cs_X12_init_X12_wordIs ml_X12_160 im_X12_wordIs se_X12_wordIs rfl rfl (Nat.le_of_ble_eq_true rfl) (Nat.le_of_ble_eq_true rfl) (ct_wi (i := 1) hc (by decide) (by decide +kernel)) kk
set_option maxRecDepth 100000 in
set_option maxHeartbeats 4000000 in
theorem ct_X12w2 {l : Launch} {w : xW} {g X : Nat → xE} {h : xH} {sl : Nat} {F : xO × xH → Prop} (hc : CI w g h 533 sl (WX w.2.1 X 2)) (kk : ∀ h', CI w g h' 533 sl (WX w.2.1 X 3) → XE l w M_X12_init 366 [(0, .ref (w.2.1 + 503))] [] h' F) : XE l w M_X12_init 358 [(0, .ref (w.2.1 + 503))] [] h F := by
  refine XE_l (pc' := 363) (ls' := [(0, .ref (w.2.1 + 503))]) (st' := [.long (110386773062757), .int (nn 2), .ref (w.2.1 + 503)]) (fun _ k => e_aload_n dX12_init_358 0 rfl (e_iconst (v := nn 2) dX12_init_359 (by decide) (e_ldc2 dX12_init_360 kj_X12_166 k))) ?_
  exact XE_callO (q := 503) (as := [.int (nn 2), .long (110386773062757)]) (rest := []) (P := fun h => CI w g h 533 sl (WX w.2.1 X 3)) hc (by decide) (WX_503 (i := 2)) xc_12 dX12_init_363 cs_X12_init_X12_wordIs ml_X12_160 im_X12_wordIs se_X12_wordIs rfl rfl (Nat.le_of_ble_eq_true rfl) (Nat.le_of_ble_eq_true rfl) (ct_wi (i := 2) hc (by decide) (by decide +kernel)) kk
set_option maxRecDepth 100000 in
set_option maxHeartbeats 4000000 in
theorem ct_X12w3 {l : Launch} {w : xW} {g X : Nat → xE} {h : xH} {sl : Nat} {F : xO × xH → Prop} (hc : CI w g h 533 sl (WX w.2.1 X 3)) (kk : ∀ h', CI w g h' 533 sl (WX w.2.1 X 4) → XE l w M_X12_init 374 [(0, .ref (w.2.1 + 503))] [] h' F) : XE l w M_X12_init 366 [(0, .ref (w.2.1 + 503))] [] h F := by
  refine XE_l (pc' := 371) (ls' := [(0, .ref (w.2.1 + 503))]) (st' := [.long (512852587109), .int (nn 3), .ref (w.2.1 + 503)]) (fun _ k => e_aload_n dX12_init_366 0 rfl (e_iconst (v := nn 3) dX12_init_367 (by decide) (e_ldc2 dX12_init_368 kj_X12_168 k))) ?_
  exact XE_callO (q := 503) (as := [.int (nn 3), .long (512852587109)]) (rest := []) (P := fun h => CI w g h 533 sl (WX w.2.1 X 4)) hc (by decide) (WX_503 (i := 3)) xc_12 dX12_init_371 cs_X12_init_X12_wordIs ml_X12_160 im_X12_wordIs se_X12_wordIs rfl rfl (Nat.le_of_ble_eq_true rfl) (Nat.le_of_ble_eq_true rfl) (ct_wi (i := 3) hc (by decide) (by decide +kernel)) kk
set_option maxRecDepth 100000 in
set_option maxHeartbeats 4000000 in
theorem ct_X12w4 {l : Launch} {w : xW} {g X : Nat → xE} {h : xH} {sl : Nat} {F : xO × xH → Prop} (hc : CI w g h 533 sl (WX w.2.1 X 4)) (kk : ∀ h', CI w g h' 533 sl (WX w.2.1 X 5) → XE l w M_X12_init 382 [(0, .ref (w.2.1 + 503))] [] h' F) : XE l w M_X12_init 374 [(0, .ref (w.2.1 + 503))] [] h F := by
  refine XE_l (pc' := 379) (ls' := [(0, .ref (w.2.1 + 503))]) (st' := [.long (7562612), .int (nn 4), .ref (w.2.1 + 503)]) (fun _ k => e_aload_n dX12_init_374 0 rfl (e_iconst (v := nn 4) dX12_init_375 (by decide) (e_ldc2 dX12_init_376 kj_X12_170 k))) ?_
  exact XE_callO (q := 503) (as := [.int (nn 4), .long (7562612)]) (rest := []) (P := fun h => CI w g h 533 sl (WX w.2.1 X 5)) hc (by decide) (WX_503 (i := 4)) xc_12 dX12_init_379 cs_X12_init_X12_wordIs ml_X12_160 im_X12_wordIs se_X12_wordIs rfl rfl (Nat.le_of_ble_eq_true rfl) (Nat.le_of_ble_eq_true rfl) (ct_wi (i := 4) hc (by decide) (by decide +kernel)) kk
set_option maxRecDepth 100000 in
set_option maxHeartbeats 4000000 in
theorem ct_X12w5 {l : Launch} {w : xW} {g X : Nat → xE} {h : xH} {sl : Nat} {F : xO × xH → Prop} (hc : CI w g h 533 sl (WX w.2.1 X 5)) (kk : ∀ h', CI w g h' 533 sl (WX w.2.1 X 6) → XE l w M_X12_init 390 [(0, .ref (w.2.1 + 503))] [] h' F) : XE l w M_X12_init 382 [(0, .ref (w.2.1 + 503))] [] h F := by
  refine XE_l (pc' := 387) (ls' := [(0, .ref (w.2.1 + 503))]) (st' := [.long (7103860), .int (nn 5), .ref (w.2.1 + 503)]) (fun _ k => e_aload_n dX12_init_382 0 rfl (e_iconst (v := nn 5) dX12_init_383 (by decide) (e_ldc2 dX12_init_384 kj_X12_172 k))) ?_
  exact XE_callO (q := 503) (as := [.int (nn 5), .long (7103860)]) (rest := []) (P := fun h => CI w g h 533 sl (WX w.2.1 X 6)) hc (by decide) (WX_503 (i := 5)) xc_12 dX12_init_387 cs_X12_init_X12_wordIs ml_X12_160 im_X12_wordIs se_X12_wordIs rfl rfl (Nat.le_of_ble_eq_true rfl) (Nat.le_of_ble_eq_true rfl) (ct_wi (i := 5) hc (by decide) (by decide +kernel)) kk
set_option maxRecDepth 100000 in
set_option maxHeartbeats 4000000 in
theorem ct_X12w6 {l : Launch} {w : xW} {g X : Nat → xE} {h : xH} {sl : Nat} {F : xO × xH → Prop} (hc : CI w g h 533 sl (WX w.2.1 X 6)) (kk : ∀ h', CI w g h' 533 sl (WX w.2.1 X 7) → XE l w M_X12_init 399 [(0, .ref (w.2.1 + 503))] [] h' F) : XE l w M_X12_init 390 [(0, .ref (w.2.1 + 503))] [] h F := by
  refine XE_l (pc' := 396) (ls' := [(0, .ref (w.2.1 + 503))]) (st' := [.long (482955849332), .int (nn 6), .ref (w.2.1 + 503)]) (fun _ k => e_aload_n dX12_init_390 0 rfl (e_bipush (v := nn 6) dX12_init_391 (by decide) (e_ldc2 dX12_init_393 kj_X12_174 k))) ?_
  exact XE_callO (q := 503) (as := [.int (nn 6), .long (482955849332)]) (rest := []) (P := fun h => CI w g h 533 sl (WX w.2.1 X 7)) hc (by decide) (WX_503 (i := 6)) xc_12 dX12_init_396 cs_X12_init_X12_wordIs ml_X12_160 im_X12_wordIs se_X12_wordIs rfl rfl (Nat.le_of_ble_eq_true rfl) (Nat.le_of_ble_eq_true rfl) (ct_wi (i := 6) hc (by decide) (by decide +kernel)) kk
set_option maxRecDepth 100000 in
set_option maxHeartbeats 4000000 in
theorem ct_X12w7 {l : Launch} {w : xW} {g X : Nat → xE} {h : xH} {sl : Nat} {F : xO × xH → Prop} (hc : CI w g h 533 sl (WX w.2.1 X 7)) (kk : ∀ h', CI w g h' 533 sl (WX w.2.1 X 8) → XE l w M_X12_init 408 [(0, .ref (w.2.1 + 503))] [] h' F) : XE l w M_X12_init 399 [(0, .ref (w.2.1 + 503))] [] h F := by
  refine XE_l (pc' := 405) (ls' := [(0, .ref (w.2.1 + 503))]) (st' := [.long (1700881256), .int (nn 7), .ref (w.2.1 + 503)]) (fun _ k => e_aload_n dX12_init_399 0 rfl (e_bipush (v := nn 7) dX12_init_400 (by decide) (e_ldc2 dX12_init_402 kj_X12_176 k))) ?_
  exact XE_callO (q := 503) (as := [.int (nn 7), .long (1700881256)]) (rest := []) (P := fun h => CI w g h 533 sl (WX w.2.1 X 8)) hc (by decide) (WX_503 (i := 7)) xc_12 dX12_init_405 cs_X12_init_X12_wordIs ml_X12_160 im_X12_wordIs se_X12_wordIs rfl rfl (Nat.le_of_ble_eq_true rfl) (Nat.le_of_ble_eq_true rfl) (ct_wi (i := 7) hc (by decide) (by decide +kernel)) kk
set_option maxRecDepth 100000 in
set_option maxHeartbeats 4000000 in
theorem ct_X12w8 {l : Launch} {w : xW} {g X : Nat → xE} {h : xH} {sl : Nat} {F : xO × xH → Prop} (hc : CI w g h 533 sl (WX w.2.1 X 8)) (kk : ∀ h', CI w g h' 533 sl (WX w.2.1 X 9) → XE l w M_X12_init 417 [(0, .ref (w.2.1 + 503))] [] h' F) : XE l w M_X12_init 408 [(0, .ref (w.2.1 + 503))] [] h F := by
  refine XE_l (pc' := 414) (ls' := [(0, .ref (w.2.1 + 503))]) (st' := [.long (25209), .int (nn 8), .ref (w.2.1 + 503)]) (fun _ k => e_aload_n dX12_init_408 0 rfl (e_bipush (v := nn 8) dX12_init_409 (by decide) (e_ldc2 dX12_init_411 kj_X12_178 k))) ?_
  exact XE_callO (q := 503) (as := [.int (nn 8), .long (25209)]) (rest := []) (P := fun h => CI w g h 533 sl (WX w.2.1 X 9)) hc (by decide) (WX_503 (i := 8)) xc_12 dX12_init_414 cs_X12_init_X12_wordIs ml_X12_160 im_X12_wordIs se_X12_wordIs rfl rfl (Nat.le_of_ble_eq_true rfl) (Nat.le_of_ble_eq_true rfl) (ct_wi (i := 8) hc (by decide) (by decide +kernel)) kk
set_option maxRecDepth 100000 in
set_option maxHeartbeats 4000000 in
theorem ct_X12w9 {l : Launch} {w : xW} {g X : Nat → xE} {h : xH} {sl : Nat} {F : xO × xH → Prop} (hc : CI w g h 533 sl (WX w.2.1 X 9)) (kk : ∀ h', CI w g h' 533 sl (WX w.2.1 X 10) → XE l w M_X12_init 426 [(0, .ref (w.2.1 + 503))] [] h' F) : XE l w M_X12_init 417 [(0, .ref (w.2.1 + 503))] [] h F := by
  refine XE_l (pc' := 423) (ls' := [(0, .ref (w.2.1 + 503))]) (st' := [.long (26982), .int (nn 9), .ref (w.2.1 + 503)]) (fun _ k => e_aload_n dX12_init_417 0 rfl (e_bipush (v := nn 9) dX12_init_418 (by decide) (e_ldc2 dX12_init_420 kj_X12_180 k))) ?_
  exact XE_callO (q := 503) (as := [.int (nn 9), .long (26982)]) (rest := []) (P := fun h => CI w g h 533 sl (WX w.2.1 X 10)) hc (by decide) (WX_503 (i := 9)) xc_12 dX12_init_423 cs_X12_init_X12_wordIs ml_X12_160 im_X12_wordIs se_X12_wordIs rfl rfl (Nat.le_of_ble_eq_true rfl) (Nat.le_of_ble_eq_true rfl) (ct_wi (i := 9) hc (by decide) (by decide +kernel)) kk
set_option maxRecDepth 100000 in
set_option maxHeartbeats 4000000 in
theorem ct_X12w10 {l : Launch} {w : xW} {g X : Nat → xE} {h : xH} {sl : Nat} {F : xO × xH → Prop} (hc : CI w g h 533 sl (WX w.2.1 X 10)) (kk : ∀ h', CI w g h' 533 sl (WX w.2.1 X 11) → XE l w M_X12_init 435 [(0, .ref (w.2.1 + 503))] [] h' F) : XE l w M_X12_init 426 [(0, .ref (w.2.1 + 503))] [] h F := by
  refine XE_l (pc' := 432) (ls' := [(0, .ref (w.2.1 + 503))]) (st' := [.long (1701606245), .int (nn 10), .ref (w.2.1 + 503)]) (fun _ k => e_aload_n dX12_init_426 0 rfl (e_bipush (v := nn 10) dX12_init_427 (by decide) (e_ldc2 dX12_init_429 kj_X12_182 k))) ?_
  exact XE_callO (q := 503) (as := [.int (nn 10), .long (1701606245)]) (rest := []) (P := fun h => CI w g h 533 sl (WX w.2.1 X 11)) hc (by decide) (WX_503 (i := 10)) xc_12 dX12_init_432 cs_X12_init_X12_wordIs ml_X12_160 im_X12_wordIs se_X12_wordIs rfl rfl (Nat.le_of_ble_eq_true rfl) (Nat.le_of_ble_eq_true rfl) (ct_wi (i := 10) hc (by decide) (by decide +kernel)) kk
set_option maxRecDepth 100000 in
set_option maxHeartbeats 4000000 in
theorem ct_X12w11 {l : Launch} {w : xW} {g X : Nat → xE} {h : xH} {sl : Nat} {F : xO × xH → Prop} (hc : CI w g h 533 sl (WX w.2.1 X 11)) (kk : ∀ h', CI w g h' 533 sl (WX w.2.1 X 12) → XE l w M_X12_init 444 [(0, .ref (w.2.1 + 503))] [] h' F) : XE l w M_X12_init 435 [(0, .ref (w.2.1 + 503))] [] h F := by
  refine XE_l (pc' := 441) (ls' := [(0, .ref (w.2.1 + 503))]) (st' := [.long (512852847717), .int (nn 11), .ref (w.2.1 + 503)]) (fun _ k => e_aload_n dX12_init_435 0 rfl (e_bipush (v := nn 11) dX12_init_436 (by decide) (e_ldc2 dX12_init_438 kj_X12_184 k))) ?_
  exact XE_callO (q := 503) (as := [.int (nn 11), .long (512852847717)]) (rest := []) (P := fun h => CI w g h 533 sl (WX w.2.1 X 12)) hc (by decide) (WX_503 (i := 11)) xc_12 dX12_init_441 cs_X12_init_X12_wordIs ml_X12_160 im_X12_wordIs se_X12_wordIs rfl rfl (Nat.le_of_ble_eq_true rfl) (Nat.le_of_ble_eq_true rfl) (ct_wi (i := 11) hc (by decide) (by decide +kernel)) kk
set_option maxRecDepth 100000 in
set_option maxHeartbeats 4000000 in
theorem ct_X12w12 {l : Launch} {w : xW} {g X : Nat → xE} {h : xH} {sl : Nat} {F : xO × xH → Prop} (hc : CI w g h 533 sl (WX w.2.1 X 12)) (kk : ∀ h', CI w g h' 533 sl (WX w.2.1 X 13) → XE l w M_X12_init 453 [(0, .ref (w.2.1 + 503))] [] h' F) : XE l w M_X12_init 444 [(0, .ref (w.2.1 + 503))] [] h F := by
  refine XE_l (pc' := 450) (ls' := [(0, .ref (w.2.1 + 503))]) (st' := [.long (125779953284709), .int (nn 12), .ref (w.2.1 + 503)]) (fun _ k => e_aload_n dX12_init_444 0 rfl (e_bipush (v := nn 12) dX12_init_445 (by decide) (e_ldc2 dX12_init_447 kj_X12_186 k))) ?_
  exact XE_callO (q := 503) (as := [.int (nn 12), .long (125779953284709)]) (rest := []) (P := fun h => CI w g h 533 sl (WX w.2.1 X 13)) hc (by decide) (WX_503 (i := 12)) xc_12 dX12_init_450 cs_X12_init_X12_wordIs ml_X12_160 im_X12_wordIs se_X12_wordIs rfl rfl (Nat.le_of_ble_eq_true rfl) (Nat.le_of_ble_eq_true rfl) (ct_wi (i := 12) hc (by decide) (by decide +kernel)) kk
set_option maxRecDepth 100000 in
set_option maxHeartbeats 4000000 in
theorem ct_X12w13 {l : Launch} {w : xW} {g X : Nat → xE} {h : xH} {sl : Nat} {F : xO × xH → Prop} (hc : CI w g h 533 sl (WX w.2.1 X 13)) (kk : ∀ h', CI w g h' 533 sl (WX w.2.1 X 14) → XE l w M_X12_init 462 [(0, .ref (w.2.1 + 503))] [] h' F) : XE l w M_X12_init 453 [(0, .ref (w.2.1 + 503))] [] h F := by
  refine XE_l (pc' := 459) (ls' := [(0, .ref (w.2.1 + 503))]) (st' := [.long (6385252), .int (nn 13), .ref (w.2.1 + 503)]) (fun _ k => e_aload_n dX12_init_453 0 rfl (e_bipush (v := nn 13) dX12_init_454 (by decide) (e_ldc2 dX12_init_456 kj_X12_188 k))) ?_
  exact XE_callO (q := 503) (as := [.int (nn 13), .long (6385252)]) (rest := []) (P := fun h => CI w g h 533 sl (WX w.2.1 X 14)) hc (by decide) (WX_503 (i := 13)) xc_12 dX12_init_459 cs_X12_init_X12_wordIs ml_X12_160 im_X12_wordIs se_X12_wordIs rfl rfl (Nat.le_of_ble_eq_true rfl) (Nat.le_of_ble_eq_true rfl) (ct_wi (i := 13) hc (by decide) (by decide +kernel)) kk
set_option maxRecDepth 100000 in
set_option maxHeartbeats 4000000 in
theorem ct_X12w14 {l : Launch} {w : xW} {g X : Nat → xE} {h : xH} {sl : Nat} {F : xO × xH → Prop} (hc : CI w g h 533 sl (WX w.2.1 X 14)) (kk : ∀ h', CI w g h' 533 sl (WX w.2.1 X 15) → XE l w M_X12_init 471 [(0, .ref (w.2.1 + 503))] [] h' F) : XE l w M_X12_init 462 [(0, .ref (w.2.1 + 503))] [] h F := by
  refine XE_l (pc' := 468) (ls' := [(0, .ref (w.2.1 + 503))]) (st' := [.long (28530), .int (nn 14), .ref (w.2.1 + 503)]) (fun _ k => e_aload_n dX12_init_462 0 rfl (e_bipush (v := nn 14) dX12_init_463 (by decide) (e_ldc2 dX12_init_465 kj_X12_190 k))) ?_
  exact XE_callO (q := 503) (as := [.int (nn 14), .long (28530)]) (rest := []) (P := fun h => CI w g h 533 sl (WX w.2.1 X 15)) hc (by decide) (WX_503 (i := 14)) xc_12 dX12_init_468 cs_X12_init_X12_wordIs ml_X12_160 im_X12_wordIs se_X12_wordIs rfl rfl (Nat.le_of_ble_eq_true rfl) (Nat.le_of_ble_eq_true rfl) (ct_wi (i := 14) hc (by decide) (by decide +kernel)) kk
set_option maxRecDepth 100000 in
set_option maxHeartbeats 4000000 in
theorem ct_X12w15 {l : Launch} {w : xW} {g X : Nat → xE} {h : xH} {sl : Nat} {F : xO × xH → Prop} (hc : CI w g h 533 sl (WX w.2.1 X 15)) (kk : ∀ h', CI w g h' 533 sl (WX w.2.1 X 16) → XE l w M_X12_init 480 [(0, .ref (w.2.1 + 503))] [] h' F) : XE l w M_X12_init 471 [(0, .ref (w.2.1 + 503))] [] h F := by
  refine XE_l (pc' := 477) (ls' := [(0, .ref (w.2.1 + 503))]) (st' := [.long (7237492), .int (nn 15), .ref (w.2.1 + 503)]) (fun _ k => e_aload_n dX12_init_471 0 rfl (e_bipush (v := nn 15) dX12_init_472 (by decide) (e_ldc2 dX12_init_474 kj_X12_192 k))) ?_
  exact XE_callO (q := 503) (as := [.int (nn 15), .long (7237492)]) (rest := []) (P := fun h => CI w g h 533 sl (WX w.2.1 X 16)) hc (by decide) (WX_503 (i := 15)) xc_12 dX12_init_477 cs_X12_init_X12_wordIs ml_X12_160 im_X12_wordIs se_X12_wordIs rfl rfl (Nat.le_of_ble_eq_true rfl) (Nat.le_of_ble_eq_true rfl) (ct_wi (i := 15) hc (by decide) (by decide +kernel)) kk
set_option maxRecDepth 100000 in
set_option maxHeartbeats 4000000 in
theorem ct_X12w16 {l : Launch} {w : xW} {g X : Nat → xE} {h : xH} {sl : Nat} {F : xO × xH → Prop} (hc : CI w g h 533 sl (WX w.2.1 X 16)) (kk : ∀ h', CI w g h' 533 sl (WX w.2.1 X 17) → XE l w M_X12_init 489 [(0, .ref (w.2.1 + 503))] [] h' F) : XE l w M_X12_init 480 [(0, .ref (w.2.1 + 503))] [] h F := by
  refine XE_l (pc' := 486) (ls' := [(0, .ref (w.2.1 + 503))]) (st' := [.long (427071729268), .int (nn 16), .ref (w.2.1 + 503)]) (fun _ k => e_aload_n dX12_init_480 0 rfl (e_bipush (v := nn 16) dX12_init_481 (by decide) (e_ldc2 dX12_init_483 kj_X12_194 k))) ?_
  exact XE_callO (q := 503) (as := [.int (nn 16), .long (427071729268)]) (rest := []) (P := fun h => CI w g h 533 sl (WX w.2.1 X 17)) hc (by decide) (WX_503 (i := 16)) xc_12 dX12_init_486 cs_X12_init_X12_wordIs ml_X12_160 im_X12_wordIs se_X12_wordIs rfl rfl (Nat.le_of_ble_eq_true rfl) (Nat.le_of_ble_eq_true rfl) (ct_wi (i := 16) hc (by decide) (by decide +kernel)) kk
set_option maxRecDepth 100000 in
set_option maxHeartbeats 4000000 in
theorem ct_X12w17 {l : Launch} {w : xW} {g X : Nat → xE} {h : xH} {sl : Nat} {F : xO × xH → Prop} (hc : CI w g h 533 sl (WX w.2.1 X 17)) (kk : ∀ h', CI w g h' 533 sl (WX w.2.1 X 18) → XE l w M_X12_init 498 [(0, .ref (w.2.1 + 503))] [] h' F) : XE l w M_X12_init 489 [(0, .ref (w.2.1 + 503))] [] h F := by
  refine XE_l (pc' := 495) (ls' := [(0, .ref (w.2.1 + 503))]) (st' := [.long (7566701), .int (nn 17), .ref (w.2.1 + 503)]) (fun _ k => e_aload_n dX12_init_489 0 rfl (e_bipush (v := nn 17) dX12_init_490 (by decide) (e_ldc2 dX12_init_492 kj_X12_196 k))) ?_
  exact XE_callO (q := 503) (as := [.int (nn 17), .long (7566701)]) (rest := []) (P := fun h => CI w g h 533 sl (WX w.2.1 X 18)) hc (by decide) (WX_503 (i := 17)) xc_12 dX12_init_495 cs_X12_init_X12_wordIs ml_X12_160 im_X12_wordIs se_X12_wordIs rfl rfl (Nat.le_of_ble_eq_true rfl) (Nat.le_of_ble_eq_true rfl) (ct_wi (i := 17) hc (by decide) (by decide +kernel)) kk
set_option maxRecDepth 100000 in
set_option maxHeartbeats 4000000 in
theorem ct_X12w18 {l : Launch} {w : xW} {g X : Nat → xE} {h : xH} {sl : Nat} {F : xO × xH → Prop} (hc : CI w g h 533 sl (WX w.2.1 X 18)) (kk : ∀ h', CI w g h' 533 sl (WX w.2.1 X 19) → XE l w M_X12_init 507 [(0, .ref (w.2.1 + 503))] [] h' F) : XE l w M_X12_init 498 [(0, .ref (w.2.1 + 503))] [] h F := by
  refine XE_l (pc' := 504) (ls' := [(0, .ref (w.2.1 + 503))]) (st' := [.long (465557353332), .int (nn 18), .ref (w.2.1 + 503)]) (fun _ k => e_aload_n dX12_init_498 0 rfl (e_bipush (v := nn 18) dX12_init_499 (by decide) (e_ldc2 dX12_init_501 kj_X12_198 k))) ?_
  exact XE_callO (q := 503) (as := [.int (nn 18), .long (465557353332)]) (rest := []) (P := fun h => CI w g h 533 sl (WX w.2.1 X 19)) hc (by decide) (WX_503 (i := 18)) xc_12 dX12_init_504 cs_X12_init_X12_wordIs ml_X12_160 im_X12_wordIs se_X12_wordIs rfl rfl (Nat.le_of_ble_eq_true rfl) (Nat.le_of_ble_eq_true rfl) (ct_wi (i := 18) hc (by decide) (by decide +kernel)) kk
set_option maxRecDepth 100000 in
set_option maxHeartbeats 4000000 in
theorem ct_X12w19 {l : Launch} {w : xW} {g X : Nat → xE} {h : xH} {sl : Nat} {F : xO × xH → Prop} (hc : CI w g h 533 sl (WX w.2.1 X 19)) (kk : ∀ h', CI w g h' 533 sl (WX w.2.1 X 20) → XE l w M_X12_init 516 [(0, .ref (w.2.1 + 503))] [] h' F) : XE l w M_X12_init 507 [(0, .ref (w.2.1 + 503))] [] h F := by
  refine XE_l (pc' := 513) (ls' := [(0, .ref (w.2.1 + 503))]) (st' := [.long (7454131802490631028), .int (nn 19), .ref (w.2.1 + 503)]) (fun _ k => e_aload_n dX12_init_507 0 rfl (e_bipush (v := nn 19) dX12_init_508 (by decide) (e_ldc2 dX12_init_510 kj_X12_200 k))) ?_
  exact XE_callO (q := 503) (as := [.int (nn 19), .long (7454131802490631028)]) (rest := []) (P := fun h => CI w g h 533 sl (WX w.2.1 X 20)) hc (by decide) (WX_503 (i := 19)) xc_12 dX12_init_513 cs_X12_init_X12_wordIs ml_X12_160 im_X12_wordIs se_X12_wordIs rfl rfl (Nat.le_of_ble_eq_true rfl) (Nat.le_of_ble_eq_true rfl) (ct_wi (i := 19) hc (by decide) (by decide +kernel)) kk
set_option maxRecDepth 100000 in
set_option maxHeartbeats 4000000 in
theorem ct_X12_init {l : Launch} {w : xW} {g X : Nat → xE} {h : xH} {sl : Nat} (hc : CI w g h 504 sl X) (hX : X 503 = .inr (12, [.int 0, .null, .int 0, .int 0, .null, .null, .null, .null, .int 0, .null, .null, .null, .null, .null, .int 0, .null, .null, .null, .int 0, .null, .int 0, .int 0, .int 0, .int 0, .null, .int 0, .int 0, .null, .int 0, .int 0, .int 0, .null, .null, .null, .null, .int 0, .int 0, .null, .null, .int 0, .null, .null, .null, .null, .null, .null, .null, .int 0])) : XE l w M_X12_init 0 (lv_args 0 [.ref (w.2.1 + 503)]) [] h (fun o => o.1 = .inl none ∧ CR w g 533 (sl + 7114) 503 X o.2) := by
  refine ct_X12a hc hX (fun h0 c0 => ?_)
  refine ct_X12w0 c0 (fun h1 c1 => ?_)
  refine ct_X12w1 c1 (fun h2 c2 => ?_)
  refine ct_X12w2 c2 (fun h3 c3 => ?_)
  refine ct_X12w3 c3 (fun h4 c4 => ?_)
  refine ct_X12w4 c4 (fun h5 c5 => ?_)
  refine ct_X12w5 c5 (fun h6 c6 => ?_)
  refine ct_X12w6 c6 (fun h7 c7 => ?_)
  refine ct_X12w7 c7 (fun h8 c8 => ?_)
  refine ct_X12w8 c8 (fun h9 c9 => ?_)
  refine ct_X12w9 c9 (fun h10 c10 => ?_)
  refine ct_X12w10 c10 (fun h11 c11 => ?_)
  refine ct_X12w11 c11 (fun h12 c12 => ?_)
  refine ct_X12w12 c12 (fun h13 c13 => ?_)
  refine ct_X12w13 c13 (fun h14 c14 => ?_)
  refine ct_X12w14 c14 (fun h15 c15 => ?_)
  refine ct_X12w15 c15 (fun h16 c16 => ?_)
  refine ct_X12w16 c16 (fun h17 c17 => ?_)
  refine ct_X12w17 c17 (fun h18 c18 => ?_)
  refine ct_X12w18 c18 (fun h19 c19 => ?_)
  refine ct_X12w19 c19 (fun h20 c20 => ?_)
  refine XE_cong (X' := fun k => if k < 503 then X k else cz w.2.1 k) c20 (fun k hk => ?_) (fun j21 ic21 => XE_ret dX12_init_516 rfl ⟨rfl, _, ic21, fun k k1 k2 => if_neg (by omega), fun k k1 => if_pos k1⟩)
  show xq (if k < 503 then X k else if k = 517 then (.inl (.long, 20, wfn 20) : xE) else cz w.2.1 k) (if k < 503 then X k else cz w.2.1 k)
  by_cases q : k < 503
  · rw [if_pos q, if_pos q]
    exact xq_r _
  · rw [if_neg q, if_neg q]
    by_cases q2 : k = 517
    · rw [if_pos q2, q2]
      refine ⟨rfl, rfl, fun j hj => ?_⟩
      show Value.long (if j < 20 then WRD j else 0) = Value.long (WRD j)
      rw [if_pos hj]
    · rw [if_neg q2]
      exact xq_r _
set_option maxRecDepth 100000 in
set_option maxHeartbeats 4000000 in
theorem ct_X11_init {l : Launch} {w : xW} {g X : Nat → xE} {h : xH} {sl : Nat} (ht : x_TX w g) (hc : CI w g h 1 sl X) (hX : X 0 = .inr (11, [.null, .null, .null, .null, .null, .null, .int 0, .int 0])) : XE l w M_X11_init 0 (lv_args 0 [.ref (w.2.1 + 0)]) [] h (fun o => o.1 = .inl none ∧ CR w g 503 (sl + 7041) 0 X o.2) := by
  show XE l w M_X11_init 0 [(0, .ref (w.2.1 + 0))] [] h _
  refine XE_l (pc' := 5) (ls' := [(0, .ref (w.2.1 + 0))]) (st' := [.ref (w.2.1 + 0)]) (fun _ k => e_aload_n dX11_init_0 0 rfl (e_objInit dX11_init_1 (x_in 131 rfl rfl) (x_in 132 rfl rfl) (x_in 133 (by decide +kernel) (by decide +kernel)) (by decide) (Nat.le_of_ble_eq_true rfl) (e_aload_n dX11_init_4 0 rfl (k)))) ?_
  refine XE_new (n := 1) (fs := [.null, .null, .null, .null, .null, .int 0, .int 0, .int 0]) hc xc_9 dX11_init_5 (by decide) (x_in 134 rfl rfl) (x_in 135 rfl rfl) in_X9 rfl (fun j hj => match j, hj with | 0, _ => rfl | 1, _ => rfl | 2, _ => rfl | 3, _ => rfl | 4, _ => rfl | 5, _ => rfl | 6, _ => rfl | 7, _ => rfl | j + 8, hj => absurd hj (by omega)) (fun h1 hc1 => ?_)
  show XE l w M_X11_init 8 [(0, .ref (w.2.1 + 0))] [.ref (w.2.1 + 1), .ref (w.2.1 + 0)] _ _
  refine XE_l (pc' := 9) (ls' := [(0, .ref (w.2.1 + 0))]) (st' := [.ref (w.2.1 + 1), .ref (w.2.1 + 1), .ref (w.2.1 + 0)]) (fun _ k => e_dup dX11_init_8 rfl (k)) ?_
  refine XE_init (as := []) (rest := [.ref (w.2.1 + 1), .ref (w.2.1 + 0)]) (P := CR w g 7 (sl + 8 + 974) 1 _) dX11_init_9 cs_X11_init_X9_init (Or.inl ml_X11_9) im_X9_init rfl rfl rfl rfl rfl (Nat.le_of_ble_eq_true rfl) (Nat.le_of_ble_eq_true rfl) (ct_X9_init ht (sl := sl + 8) (CI_s hc1 (by omega)) rfl) (fun h2 ⟨X2, hc2, hge2, hlt2⟩ => ?_)
  show XE l w M_X11_init 12 [(0, .ref (w.2.1 + 0))] [.ref (w.2.1 + 1), .ref (w.2.1 + 0)] _ _
  refine XE_putF (q := 0) (k := 0) hc2 (by decide) ((hlt2 0 (by decide)).trans hX) xc_11 dX11_init_12 (x_in 565 (by decide +kernel) (by decide +kernel)) (by decide) (by decide) rfl rfl rfl rfl rfl (fun h3 hc3 => ?_)
  show XE l w M_X11_init 15 [(0, .ref (w.2.1 + 0))] [] _ _
  refine XE_l (pc' := 16) (ls' := [(0, .ref (w.2.1 + 0))]) (st' := [.ref (w.2.1 + 0)]) (fun _ k => e_aload_n dX11_init_15 0 rfl (k)) ?_
  refine XE_new (n := 7) (fs := [.null, .null, .null, .null, .null, .int 0, .int 0, .int 0, .int 0]) hc3 xc_3 dX11_init_16 (by decide) (x_in 224 rfl rfl) (x_in 225 rfl rfl) in_X3 rfl (fun j hj => match j, hj with | 0, _ => rfl | 1, _ => rfl | 2, _ => rfl | 3, _ => rfl | 4, _ => rfl | 5, _ => rfl | 6, _ => rfl | 7, _ => rfl | 8, _ => rfl | j + 9, hj => absurd hj (by omega)) (fun h4 hc4 => ?_)
  show XE l w M_X11_init 19 [(0, .ref (w.2.1 + 0))] [.ref (w.2.1 + 7), .ref (w.2.1 + 0)] _ _
  refine XE_l (pc' := 20) (ls' := [(0, .ref (w.2.1 + 0))]) (st' := [.ref (w.2.1 + 7), .ref (w.2.1 + 7), .ref (w.2.1 + 0)]) (fun _ k => e_dup dX11_init_19 rfl (k)) ?_
  refine XE_init (as := []) (rest := [.ref (w.2.1 + 7), .ref (w.2.1 + 0)]) (P := CR w g 29 (sl + 991 + 148) 7 _) dX11_init_20 cs_X11_init_X3_init (Or.inr ⟨_, ml_X11_18⟩) im_X3_init rfl rfl rfl rfl rfl (Nat.le_of_ble_eq_true rfl) (Nat.le_of_ble_eq_true rfl) (ct_X3_init (sl := sl + 991) (CI_s hc4 (by omega)) rfl) (fun h5 ⟨X5, hc5, hge5, hlt5⟩ => ?_)
  show XE l w M_X11_init 23 [(0, .ref (w.2.1 + 0))] [.ref (w.2.1 + 7), .ref (w.2.1 + 0)] _ _
  refine XE_putF (q := 0) (k := 1) hc5 (by decide) ((hlt5 0 (by decide)).trans rfl) xc_11 dX11_init_23 (x_in 566 (by decide +kernel) (by decide +kernel)) (by decide) (by decide) rfl rfl rfl rfl rfl (fun h6 hc6 => ?_)
  show XE l w M_X11_init 26 [(0, .ref (w.2.1 + 0))] [] _ _
  refine XE_l (pc' := 27) (ls' := [(0, .ref (w.2.1 + 0))]) (st' := [.ref (w.2.1 + 0)]) (fun _ k => e_aload_n dX11_init_26 0 rfl (k)) ?_
  refine XE_new (n := 29) (fs := [.null, .null, .null, .int 0]) hc6 xc_10 dX11_init_27 (by decide) (x_in 263 rfl rfl) (x_in 264 rfl rfl) in_X10 rfl (fun j hj => match j, hj with | 0, _ => rfl | 1, _ => rfl | 2, _ => rfl | 3, _ => rfl | j + 4, hj => absurd hj (by omega)) (fun h7 hc7 => ?_)
  show XE l w M_X11_init 30 [(0, .ref (w.2.1 + 0))] [.ref (w.2.1 + 29), .ref (w.2.1 + 0)] _ _
  refine XE_l (pc' := 31) (ls' := [(0, .ref (w.2.1 + 0))]) (st' := [.ref (w.2.1 + 29), .ref (w.2.1 + 29), .ref (w.2.1 + 0)]) (fun _ k => e_dup dX11_init_30 rfl (k)) ?_
  refine XE_init (as := []) (rest := [.ref (w.2.1 + 29), .ref (w.2.1 + 0)]) (P := CR w g 97 (sl + 1143 + 520) 29 _) dX11_init_31 cs_X11_init_X10_init (Or.inr ⟨_, ml_X11_25⟩) im_X10_init rfl rfl rfl rfl rfl (Nat.le_of_ble_eq_true rfl) (Nat.le_of_ble_eq_true rfl) (ct_X10_init (sl := sl + 1143) (CI_s hc7 (by omega)) rfl) (fun h8 ⟨X8, hc8, hge8, hlt8⟩ => ?_)
  show XE l w M_X11_init 34 [(0, .ref (w.2.1 + 0))] [.ref (w.2.1 + 29), .ref (w.2.1 + 0)] _ _
  refine XE_putF (q := 0) (k := 2) hc8 (by decide) ((hlt8 0 (by decide)).trans rfl) xc_11 dX11_init_34 (x_in 567 (by decide +kernel) (by decide +kernel)) (by decide) (by decide) rfl rfl rfl rfl rfl (fun h9 hc9 => ?_)
  show XE l w M_X11_init 37 [(0, .ref (w.2.1 + 0))] [] _ _
  refine XE_l (pc' := 38) (ls' := [(0, .ref (w.2.1 + 0))]) (st' := [.ref (w.2.1 + 0)]) (fun _ k => e_aload_n dX11_init_37 0 rfl (k)) ?_
  refine XE_new (n := 97) (fs := [.null, .null, .null, .null, .int 0, .int 0, .int 0]) hc9 xc_5 dX11_init_38 (by decide) (x_in 288 rfl rfl) (x_in 289 rfl rfl) in_X5 rfl (fun j hj => match j, hj with | 0, _ => rfl | 1, _ => rfl | 2, _ => rfl | 3, _ => rfl | 4, _ => rfl | 5, _ => rfl | 6, _ => rfl | j + 7, hj => absurd hj (by omega)) (fun h10 hc10 => ?_)
  show XE l w M_X11_init 41 [(0, .ref (w.2.1 + 0))] [.ref (w.2.1 + 97), .ref (w.2.1 + 0)] _ _
  refine XE_l (pc' := 42) (ls' := [(0, .ref (w.2.1 + 0))]) (st' := [.ref (w.2.1 + 97), .ref (w.2.1 + 97), .ref (w.2.1 + 0)]) (fun _ k => e_dup dX11_init_41 rfl (k)) ?_
  refine XE_init (as := []) (rest := [.ref (w.2.1 + 97), .ref (w.2.1 + 0)]) (P := CR w g 404 (sl + 1670 + 3171) 97 _) dX11_init_42 cs_X11_init_X5_init (Or.inl ml_X11_32) im_X5_init rfl rfl rfl rfl rfl (Nat.le_of_ble_eq_true rfl) (Nat.le_of_ble_eq_true rfl) (ct_X5_init (sl := sl + 1670) (CI_s hc10 (by omega)) rfl) (fun h11 ⟨X11, hc11, hge11, hlt11⟩ => ?_)
  show XE l w M_X11_init 45 [(0, .ref (w.2.1 + 0))] [.ref (w.2.1 + 97), .ref (w.2.1 + 0)] _ _
  refine XE_putF (q := 0) (k := 3) hc11 (by decide) ((hlt11 0 (by decide)).trans rfl) xc_11 dX11_init_45 (x_in 568 (by decide +kernel) (by decide +kernel)) (by decide) (by decide) rfl rfl rfl rfl rfl (fun h12 hc12 => ?_)
  show XE l w M_X11_init 48 [(0, .ref (w.2.1 + 0))] [] _ _
  refine XE_l (pc' := 49) (ls' := [(0, .ref (w.2.1 + 0))]) (st' := [.ref (w.2.1 + 0)]) (fun _ k => e_aload_n dX11_init_48 0 rfl (k)) ?_
  refine XE_new (n := 404) (fs := [.null, .null, .null, .null, .null]) hc12 xc_6 dX11_init_49 (by decide) (x_in 416 rfl rfl) (x_in 417 rfl rfl) in_X6 rfl (fun j hj => match j, hj with | 0, _ => rfl | 1, _ => rfl | 2, _ => rfl | 3, _ => rfl | 4, _ => rfl | j + 5, hj => absurd hj (by omega)) (fun h13 hc13 => ?_)
  show XE l w M_X11_init 52 [(0, .ref (w.2.1 + 0))] [.ref (w.2.1 + 404), .ref (w.2.1 + 0)] _ _
  refine XE_l (pc' := 54) (ls' := [(0, .ref (w.2.1 + 0))]) (st' := [.ref (w.2.1 + 0), .ref (w.2.1 + 404), .ref (w.2.1 + 404), .ref (w.2.1 + 0)]) (fun _ k => e_dup dX11_init_52 rfl (e_aload_n dX11_init_53 0 rfl (k))) ?_
  refine XE_get (q := 0) (k := 0) (v := .ref (w.2.1 + 1)) hc13 (by decide) rfl xc_11 dX11_init_54 fl_X11_10 (by decide) rfl ?_
  show XE l w M_X11_init 57 [(0, .ref (w.2.1 + 0))] [.ref (w.2.1 + 1), .ref (w.2.1 + 404), .ref (w.2.1 + 404), .ref (w.2.1 + 0)] _ _
  refine XE_l (pc' := 58) (ls' := [(0, .ref (w.2.1 + 0))]) (st' := [.ref (w.2.1 + 0), .ref (w.2.1 + 1), .ref (w.2.1 + 404), .ref (w.2.1 + 404), .ref (w.2.1 + 0)]) (fun _ k => e_aload_n dX11_init_57 0 rfl (k)) ?_
  refine XE_get (q := 0) (k := 1) (v := .ref (w.2.1 + 7)) hc13 (by decide) rfl xc_11 dX11_init_58 fl_X11_19 (by decide) rfl ?_
  show XE l w M_X11_init 61 [(0, .ref (w.2.1 + 0))] [.ref (w.2.1 + 7), .ref (w.2.1 + 1), .ref (w.2.1 + 404), .ref (w.2.1 + 404), .ref (w.2.1 + 0)] _ _
  refine XE_l (pc' := 62) (ls' := [(0, .ref (w.2.1 + 0))]) (st' := [.ref (w.2.1 + 0), .ref (w.2.1 + 7), .ref (w.2.1 + 1), .ref (w.2.1 + 404), .ref (w.2.1 + 404), .ref (w.2.1 + 0)]) (fun _ k => e_aload_n dX11_init_61 0 rfl (k)) ?_
  refine XE_get (q := 0) (k := 3) (v := .ref (w.2.1 + 97)) hc13 (by decide) rfl xc_11 dX11_init_62 fl_X11_33 (by decide) rfl ?_
  show XE l w M_X11_init 65 [(0, .ref (w.2.1 + 0))] [.ref (w.2.1 + 97), .ref (w.2.1 + 7), .ref (w.2.1 + 1), .ref (w.2.1 + 404), .ref (w.2.1 + 404), .ref (w.2.1 + 0)] _ _
  refine XE_init (as := [.ref (w.2.1 + 1), .ref (w.2.1 + 7), .ref (w.2.1 + 97)]) (rest := [.ref (w.2.1 + 404), .ref (w.2.1 + 0)]) (P := CR w g 409 (sl + 4846 + 176) 404 _) dX11_init_65 cs_X11_init_X6_init (Or.inl ml_X11_39) im_X6_init rfl rfl rfl rfl rfl (Nat.le_of_ble_eq_true rfl) (Nat.le_of_ble_eq_true rfl) (ct_X6_init (sl := sl + 4846) (CI_s hc13 (by omega)) rfl) (fun h14 ⟨X14, hc14, hge14, hlt14⟩ => ?_)
  show XE l w M_X11_init 68 [(0, .ref (w.2.1 + 0))] [.ref (w.2.1 + 404), .ref (w.2.1 + 0)] _ _
  refine XE_putF (q := 0) (k := 4) hc14 (by decide) ((hlt14 0 (by decide)).trans rfl) xc_11 dX11_init_68 (x_in 569 (by decide +kernel) (by decide +kernel)) (by decide) (by decide) rfl rfl rfl rfl rfl (fun h15 hc15 => ?_)
  show XE l w M_X11_init 71 [(0, .ref (w.2.1 + 0))] [] _ _
  refine XE_l (pc' := 72) (ls' := [(0, .ref (w.2.1 + 0))]) (st' := [.ref (w.2.1 + 0)]) (fun _ k => e_aload_n dX11_init_71 0 rfl (k)) ?_
  refine XE_new (n := 409) (fs := [.null, .null, .null, .null, .null, .null, .null, .null, .int 0, .int 0, .int 0]) hc15 xc_2 dX11_init_72 (by decide) (x_in 498 rfl rfl) (x_in 499 rfl rfl) in_X2 rfl (fun j hj => match j, hj with | 0, _ => rfl | 1, _ => rfl | 2, _ => rfl | 3, _ => rfl | 4, _ => rfl | 5, _ => rfl | 6, _ => rfl | 7, _ => rfl | 8, _ => rfl | 9, _ => rfl | 10, _ => rfl | j + 11, hj => absurd hj (by omega)) (fun h16 hc16 => ?_)
  show XE l w M_X11_init 75 [(0, .ref (w.2.1 + 0))] [.ref (w.2.1 + 409), .ref (w.2.1 + 0)] _ _
  refine XE_l (pc' := 77) (ls' := [(0, .ref (w.2.1 + 0))]) (st' := [.ref (w.2.1 + 0), .ref (w.2.1 + 409), .ref (w.2.1 + 409), .ref (w.2.1 + 0)]) (fun _ k => e_dup dX11_init_75 rfl (e_aload_n dX11_init_76 0 rfl (k))) ?_
  refine XE_get (q := 0) (k := 3) (v := .ref (w.2.1 + 97)) hc16 (by decide) rfl xc_11 dX11_init_77 fl_X11_33 (by decide) rfl ?_
  show XE l w M_X11_init 80 [(0, .ref (w.2.1 + 0))] [.ref (w.2.1 + 97), .ref (w.2.1 + 409), .ref (w.2.1 + 409), .ref (w.2.1 + 0)] _ _
  refine XE_l (pc' := 81) (ls' := [(0, .ref (w.2.1 + 0))]) (st' := [.ref (w.2.1 + 0), .ref (w.2.1 + 97), .ref (w.2.1 + 409), .ref (w.2.1 + 409), .ref (w.2.1 + 0)]) (fun _ k => e_aload_n dX11_init_80 0 rfl (k)) ?_
  refine XE_get (q := 0) (k := 1) (v := .ref (w.2.1 + 7)) hc16 (by decide) rfl xc_11 dX11_init_81 fl_X11_19 (by decide) rfl ?_
  show XE l w M_X11_init 84 [(0, .ref (w.2.1 + 0))] [.ref (w.2.1 + 7), .ref (w.2.1 + 97), .ref (w.2.1 + 409), .ref (w.2.1 + 409), .ref (w.2.1 + 0)] _ _
  refine XE_l (pc' := 85) (ls' := [(0, .ref (w.2.1 + 0))]) (st' := [.ref (w.2.1 + 0), .ref (w.2.1 + 7), .ref (w.2.1 + 97), .ref (w.2.1 + 409), .ref (w.2.1 + 409), .ref (w.2.1 + 0)]) (fun _ k => e_aload_n dX11_init_84 0 rfl (k)) ?_
  refine XE_get (q := 0) (k := 2) (v := .ref (w.2.1 + 29)) hc16 (by decide) rfl xc_11 dX11_init_85 fl_X11_26 (by decide) rfl ?_
  show XE l w M_X11_init 88 [(0, .ref (w.2.1 + 0))] [.ref (w.2.1 + 29), .ref (w.2.1 + 7), .ref (w.2.1 + 97), .ref (w.2.1 + 409), .ref (w.2.1 + 409), .ref (w.2.1 + 0)] _ _
  refine XE_init (as := [.ref (w.2.1 + 97), .ref (w.2.1 + 7), .ref (w.2.1 + 29)]) (rest := [.ref (w.2.1 + 409), .ref (w.2.1 + 0)]) (P := CR w g 503 (sl + 5033 + 2008) 409 _) dX11_init_88 cs_X11_init_X2_init (Or.inl ml_X11_48) im_X2_init rfl rfl rfl rfl rfl (Nat.le_of_ble_eq_true rfl) (Nat.le_of_ble_eq_true rfl) (ct_X2_init (sl := sl + 5033) (CI_s hc16 (by omega)) rfl) (fun h17 ⟨X17, hc17, hge17, hlt17⟩ => ?_)
  show XE l w M_X11_init 91 [(0, .ref (w.2.1 + 0))] [.ref (w.2.1 + 409), .ref (w.2.1 + 0)] _ _
  refine XE_putF (q := 0) (k := 5) hc17 (by decide) ((hlt17 0 (by decide)).trans rfl) xc_11 dX11_init_91 (x_in 570 (by decide +kernel) (by decide +kernel)) (by decide) (by decide) rfl rfl rfl rfl rfl (fun h18 hc18 => ?_)
  show XE l w M_X11_init 94 [(0, .ref (w.2.1 + 0))] [] _ _
  refine XE_l (pc' := 96) (ls' := [(0, .ref (w.2.1 + 0))]) (st' := [.int (-1), .ref (w.2.1 + 0)]) (fun _ k => e_aload_n dX11_init_94 0 rfl (e_iconst (v := (-1)) dX11_init_95 (by decide) (k))) ?_
  refine XE_put (q := 0) (k := 7) hc18 (by decide) rfl xc_11 dX11_init_96 fl_X11_55 (by decide) (by decide) rfl rfl rfl (fun h19 hc19 => ?_)
  show XE l w M_X11_init 99 [(0, .ref (w.2.1 + 0))] [] _ _
  refine XE_ret dX11_init_99 rfl ⟨rfl, _, CI_s hc19 (by omega), ?_, fun k hk => by omega⟩
  exact fa_r (b := 409) (c := 503) (fa_r (b := 404) (c := 409) (fa_r (b := 97) (c := 404) (fa_r (b := 29) (c := 97) (fa_r (b := 7) (c := 29) (fa_r (b := 1) (c := 7) (fa_s rfl (fa_b (by decide))) (fun k k1 k2 => by simp (disch := omega) only [uX_n, hlt2, hlt5, hlt8, hlt11, hlt14, hlt17, hge2, hge5, hge8, hge11, hge14, hge17])) (fun k k1 k2 => by simp (disch := omega) only [uX_n, hlt2, hlt5, hlt8, hlt11, hlt14, hlt17, hge2, hge5, hge8, hge11, hge14, hge17])) (fun k k1 k2 => by simp (disch := omega) only [uX_n, hlt2, hlt5, hlt8, hlt11, hlt14, hlt17, hge2, hge5, hge8, hge11, hge14, hge17])) (fun k k1 k2 => by simp (disch := omega) only [uX_n, hlt2, hlt5, hlt8, hlt11, hlt14, hlt17, hge2, hge5, hge8, hge11, hge14, hge17])) (fun k k1 k2 => by simp (disch := omega) only [uX_n, hlt2, hlt5, hlt8, hlt11, hlt14, hlt17, hge2, hge5, hge8, hge11, hge14, hge17])) (fun k k1 k2 => by simp (disch := omega) only [uX_n, hlt2, hlt5, hlt8, hlt11, hlt14, hlt17, hge2, hge5, hge8, hge11, hge14, hge17])
set_option maxRecDepth 100000 in
set_option maxHeartbeats 4000000 in
theorem ct_law {l : Launch} {w : xW} {g X : Nat → xE} {h : xH} {b : Nat} {F : xO × xH → Prop} (sl : Nat) (ht : x_TX w g) (hc : CI w g h 0 sl X) (kk : ∀ h' X', CI w g h' 534 (sl + 14212) X' → (∀ k, k < 534 → X' k = cz w.2.1 k) → XE l w M_L_law 23 [(4, .int 0), (3, .ref (w.2.1 + 533)), (2, .ref (w.2.1 + 503)), (1, .ref (w.2.1 + 0)), (0, .ref b)] [] h' F) : XE l w M_L_law 0 [(0, .ref b)] [] h F := by
  refine XE_new (n := 0) (fs := [.null, .null, .null, .null, .null, .null, .int 0, .int 0]) hc xc_11 dL_law_0 (by decide) (x_in 126 rfl rfl) (x_in 127 rfl rfl) in_X11 rfl (fun j hj => match j, hj with | 0, _ => rfl | 1, _ => rfl | 2, _ => rfl | 3, _ => rfl | 4, _ => rfl | 5, _ => rfl | 6, _ => rfl | 7, _ => rfl | j + 8, hj => absurd hj (by omega)) (fun h1 hc1 => ?_)
  show XE l w M_L_law 3 [(0, .ref b)] [.ref (w.2.1 + 0)] _ _
  refine XE_l (pc' := 4) (ls' := [(0, .ref b)]) (st' := [.ref (w.2.1 + 0), .ref (w.2.1 + 0)]) (fun _ k => e_dup dL_law_3 rfl (k)) ?_
  refine XE_init (as := []) (rest := [.ref (w.2.1 + 0)]) (P := CR w g 503 (sl + 8 + 7041) 0 _) dL_law_4 cs_L_law_X11_init (Or.inl ml_L_34) im_X11_init rfl rfl rfl rfl rfl (Nat.le_of_ble_eq_true rfl) (Nat.le_of_ble_eq_true rfl) (ct_X11_init ht (sl := sl + 8) (CI_s hc1 (by omega)) rfl) (fun h2 ⟨X2, hc2, hge2, hlt2⟩ => ?_)
  show XE l w M_L_law 7 [(0, .ref b)] [.ref (w.2.1 + 0)] _ _
  refine XE_l (pc' := 8) (ls' := [(1, .ref (w.2.1 + 0)), (0, .ref b)]) (st' := []) (fun _ k => e_astore_n (ls' := [(1, .ref (w.2.1 + 0)), (0, .ref b)]) dL_law_7 (by decide) rfl (k)) ?_
  refine XE_new (n := 503) (fs := [.int 0, .null, .int 0, .int 0, .null, .null, .null, .null, .int 0, .null, .null, .null, .null, .null, .int 0, .null, .null, .null, .int 0, .null, .int 0, .int 0, .int 0, .int 0, .null, .int 0, .int 0, .null, .int 0, .int 0, .int 0, .null, .null, .null, .null, .int 0, .int 0, .null, .null, .int 0, .null, .null, .null, .null, .null, .null, .null, .int 0]) hc2 xc_12 dL_law_8 (by decide) (x_in 1186 rfl rfl) (x_in 1187 rfl rfl) in_X12 rfl (fun j hj => match j, hj with | 0, _ => rfl | 1, _ => rfl | 2, _ => rfl | 3, _ => rfl | 4, _ => rfl | 5, _ => rfl | 6, _ => rfl | 7, _ => rfl | 8, _ => rfl | 9, _ => rfl | 10, _ => rfl | 11, _ => rfl | 12, _ => rfl | 13, _ => rfl | 14, _ => rfl | 15, _ => rfl | 16, _ => rfl | 17, _ => rfl | 18, _ => rfl | 19, _ => rfl | 20, _ => rfl | 21, _ => rfl | 22, _ => rfl | 23, _ => rfl | 24, _ => rfl | 25, _ => rfl | 26, _ => rfl | 27, _ => rfl | 28, _ => rfl | 29, _ => rfl | 30, _ => rfl | 31, _ => rfl | 32, _ => rfl | 33, _ => rfl | 34, _ => rfl | 35, _ => rfl | 36, _ => rfl | 37, _ => rfl | 38, _ => rfl | 39, _ => rfl | 40, _ => rfl | 41, _ => rfl | 42, _ => rfl | 43, _ => rfl | 44, _ => rfl | 45, _ => rfl | 46, _ => rfl | 47, _ => rfl | j + 48, hj => absurd hj (by omega)) (fun h3 hc3 => ?_)
  show XE l w M_L_law 11 [(1, .ref (w.2.1 + 0)), (0, .ref b)] [.ref (w.2.1 + 503)] _ _
  refine XE_l (pc' := 12) (ls' := [(1, .ref (w.2.1 + 0)), (0, .ref b)]) (st' := [.ref (w.2.1 + 503), .ref (w.2.1 + 503)]) (fun _ k => e_dup dL_law_11 rfl (k)) ?_
  refine XE_init (as := []) (rest := [.ref (w.2.1 + 503)]) (P := CR w g 533 (sl + 7097 + 7114) 503 _) dL_law_12 cs_L_law_X12_init (Or.inl ml_L_37) im_X12_init rfl rfl rfl rfl rfl (Nat.le_of_ble_eq_true rfl) (Nat.le_of_ble_eq_true rfl) (ct_X12_init (sl := sl + 7097) (CI_s hc3 (by omega)) rfl) (fun h4 ⟨X4, hc4, hge4, hlt4⟩ => ?_)
  show XE l w M_L_law 15 [(1, .ref (w.2.1 + 0)), (0, .ref b)] [.ref (w.2.1 + 503)] _ _
  refine XE_l (pc' := 17) (ls' := [(2, .ref (w.2.1 + 503)), (1, .ref (w.2.1 + 0)), (0, .ref b)]) (st' := [.int 1]) (fun _ k => e_astore_n (ls' := [(2, .ref (w.2.1 + 503)), (1, .ref (w.2.1 + 0)), (0, .ref b)]) dL_law_15 (by decide) rfl (e_iconst (v := 1) dL_law_16 (by decide) (k))) ?_
  refine XE_newa (n := 533) (N := 1) hc4 dL_law_17 (x_in 220 rfl rfl) (fun C z => by cases z) (by decide) rfl (by decide) (fun h5 hc5 => ?_)
  show XE l w M_L_law 19 [(2, .ref (w.2.1 + 503)), (1, .ref (w.2.1 + 0)), (0, .ref b)] [.ref (w.2.1 + 533)] _ _
  refine XE_l (pc' := 23) (ls' := [(4, .int 0), (3, .ref (w.2.1 + 533)), (2, .ref (w.2.1 + 503)), (1, .ref (w.2.1 + 0)), (0, .ref b)]) (st' := []) (fun _ k => e_astore_n (ls' := [(3, .ref (w.2.1 + 533)), (2, .ref (w.2.1 + 503)), (1, .ref (w.2.1 + 0)), (0, .ref b)]) dL_law_19 (by decide) rfl (e_iconst (v := 0) dL_law_20 (by decide) (e_istore (ls' := [(4, .int 0), (3, .ref (w.2.1 + 533)), (2, .ref (w.2.1 + 503)), (1, .ref (w.2.1 + 0)), (0, .ref b)]) dL_law_21 (by decide) rfl (k)))) ?_
  exact kk _ _ (CI_s hc5 (by omega)) (fa_z (fa_s rfl (fa_r (b := 503) (c := 533) (fun k k1 k2 => by simp (disch := omega) only [uX_n, hlt2, hlt4, hge2, hge4]) (fun k k1 k2 => by simp (disch := omega) only [uX_n, hlt2, hlt4, hge2, hge4]))))
