def f_X6_where_23 (N : Nat)  (s0 : Int32) (S : xS) : Option xr :=
  some (.inl (some (.inl s0)), S)
set_option maxRecDepth 100000 in
set_option maxHeartbeats 4000000 in
theorem t_X6_where_23 {l : Launch} {w : xW} {g : Nat → xE} (N : Nat)   (s0 : Int32) (S : xS) (r : xr) (hf : f_X6_where_23 N  s0 S = some r) : ES l w g M_X6_where 23 [] [.int s0] S r := by
  unfold f_X6_where_23 at hf
  exact es_ireturn (ty := .int) dX6_where_23 rfl rfl hf
def f_X6_where (N : Nat) (x1 : Int32) (S : xS) : Option xr :=
  xcI (f_X9_passed N 4 S) (fun v12 S11 =>
  if v12 = 0 then
    f_X6_where_23 N ((-1)) S11
  else
    xcI (f_X1_read N x1 S11) (fun v15 S14 =>
    f_X6_where_23 N v15 S14
    )
  )
set_option maxRecDepth 100000 in
set_option maxHeartbeats 4000000 in
theorem t_X6_where {l : Launch} {w : xW} {g : Nat → xE} (N : Nat) (x1 : Int32) (S : xS) (r : xr) (hf : f_X6_where N x1 S = some r) : ES l w g M_X6_where 0 (lv_args 0 [.ref (w.2.1 + 404), .int x1]) [] S r := by
  show ES l w g M_X6_where 0 [(0, .ref (w.2.1 + 404)), (1, .int x1)] [] S r
  unfold f_X6_where at hf
  refine es_l (pc' := 1) (ls' := [(0, .ref (w.2.1 + 404)), (1, .int x1)]) (st' := [.ref (w.2.1 + 404)]) (fun _ _ k => e_aload_n dX6_where_0 0 rfl k) ?_
  refine es_get (v := .ref (w.2.1 + 1)) xc_6 dX6_where_1 fl_X6_9 (by decide) (by decide) (cel_404 _ _ _) rfl ?_
  refine es_l (pc' := 5) (ls' := [(0, .ref (w.2.1 + 404)), (1, .int x1)]) (st' := [.int 4, .ref (w.2.1 + 1)]) (fun _ _ k => e_iconst (v := 4) dX6_where_4 (by decide) k) ?_
  refine es_callVI (as := [.int 4]) (rest := []) hf xc_9 dX6_where_5 cs_X6_where_X9_passed ml_X6_114 im_X9_passed se_X9_passed rfl rfl (Nat.le_of_ble_eq_true rfl) (Nat.le_of_ble_eq_true rfl) (by decide) rfl (cel_1 _ _ _) (fun _ e => t_X9_passed N 4 S _ e) (by decide) (fun v12 S11 hf => ?_)
  refine es_br (c := v12 = 0) (tgt := 22) (pf := 11) (st' := []) (fun _ _ a b => e_if_eq dX6_where_8 rfl a b) (fun c13 => ?_) (fun c13 => ?_)
  · rw [if_pos c13] at hf
    refine es_l (pc' := 23) (ls' := [(0, .ref (w.2.1 + 404)), (1, .int x1)]) (st' := [.int ((-1))]) (fun _ _ k => e_iconst (v := (-1)) dX6_where_22 (by decide) k) ?_
    refine es_sub [] rfl ?_
    exact t_X6_where_23 N ((-1)) S11 r hf
  · rw [if_neg c13] at hf
    refine es_l (pc' := 12) (ls' := [(0, .ref (w.2.1 + 404)), (1, .int x1)]) (st' := [.ref (w.2.1 + 404)]) (fun _ _ k => e_aload_n dX6_where_11 0 rfl k) ?_
    refine es_get (v := .ref (w.2.1 + 407)) xc_6 dX6_where_12 fl_X6_37 (by decide) (by decide) (cel_404 _ _ _) rfl ?_
    refine es_l (pc' := 16) (ls' := [(0, .ref (w.2.1 + 404)), (1, .int x1)]) (st' := [.int x1, .ref (w.2.1 + 407)]) (fun _ _ k => e_iload_n dX6_where_15 1 rfl k) ?_
    refine es_callVI (as := [.int x1]) (rest := []) hf xc_1 dX6_where_16 cs_X6_where_X1_read ml_X6_154 im_X1_read se_X1_read rfl rfl (Nat.le_of_ble_eq_true rfl) (Nat.le_of_ble_eq_true rfl) (by decide) rfl (cel_407 _ _ _) (fun _ e => t_X1_read N x1 S11 _ e) (by decide) (fun v15 S14 hf => ?_)
    refine es_l (pc' := 23) (ls' := [(0, .ref (w.2.1 + 404)), (1, .int x1)]) (st' := [.int v15]) (fun _ _ k => e_goto (tgt := 23) dX6_where_19 rfl k) ?_
    refine es_sub [] rfl ?_
    exact t_X6_where_23 N v15 S14 r hf
def f_X6_delete (N : Nat)  (S : xS) : Option xr :=
  xcR (f_X5_addStep N 3 S) (fun v13 S12 =>
  xcV (f_X9_pass N S12) (fun S14 =>
  xcI (f_X7_takeKind N S14) (fun v17 S16 =>
  if xStep v13 then
  xcI (f_X6_where N ((sI S16 v13 1 v17).1 v13 1) (sI S16 v13 1 v17)) (fun v20 S19 =>
  xcV (f_X9_take N 34 (sI S19 v13 5 v20)) (fun S21 =>
  some (.inl none, S21)
  )
  )
  else none
  )
  )
  )
set_option maxRecDepth 100000 in
set_option maxHeartbeats 4000000 in
theorem t_X6_delete {l : Launch} {w : xW} {g : Nat → xE} (N : Nat)  (S : xS) (r : xr) (hf : f_X6_delete N  S = some r) : ES l w g M_X6_delete 0 (lv_args 0 [.ref (w.2.1 + 404)]) [] S r := by
  show ES l w g M_X6_delete 0 [(0, .ref (w.2.1 + 404))] [] S r
  unfold f_X6_delete at hf
  refine es_l (pc' := 1) (ls' := [(0, .ref (w.2.1 + 404))]) (st' := [.ref (w.2.1 + 404)]) (fun _ _ k => e_aload_n dX6_delete_0 0 rfl k) ?_
  refine es_get (v := .ref (w.2.1 + 97)) xc_6 dX6_delete_1 fl_X6_19 (by decide) (by decide) (cel_404 _ _ _) rfl ?_
  refine es_l (pc' := 5) (ls' := [(0, .ref (w.2.1 + 404))]) (st' := [.int 3, .ref (w.2.1 + 97)]) (fun _ _ k => e_iconst (v := 3) dX6_delete_4 (by decide) k) ?_
  refine es_callVR (as := [.int 3]) (rest := []) hf xc_5 dX6_delete_5 cs_X6_delete_X5_addStep ml_X6_91 im_X5_addStep se_X5_addStep rfl rfl (Nat.le_of_ble_eq_true rfl) (Nat.le_of_ble_eq_true rfl) (by decide) rfl (cel_97 _ _ _) (fun _ e => t_X5_addStep N 3 S _ e) (by decide) (fun v13 S12 hf => ?_)
  refine es_l (pc' := 10) (ls' := [(1, .ref (w.2.1 + v13)), (0, .ref (w.2.1 + 404))]) (st' := [.ref (w.2.1 + 404)]) (fun _ _ k => e_astore_n (ls' := [(1, .ref (w.2.1 + v13)), (0, .ref (w.2.1 + 404))]) dX6_delete_8 (by decide) rfl (e_aload_n dX6_delete_9 1 rfl k)) ?_
  refine es_get (v := .ref (w.2.1 + 1)) xc_6 dX6_delete_10 fl_X6_9 (by decide) (by decide) (cel_404 _ _ _) rfl ?_
  refine es_callVV (as := []) (rest := []) hf xc_9 dX6_delete_13 cs_X6_delete_X9_pass ml_X6_95 im_X9_pass se_X9_pass rfl rfl (Nat.le_of_ble_eq_true rfl) (Nat.le_of_ble_eq_true rfl) (by decide) rfl (cel_1 _ _ _) (fun _ e => t_X9_pass N  S12 _ e) (by decide) (fun S14 hf => ?_)
  refine es_l (pc' := 18) (ls' := [(1, .ref (w.2.1 + v13)), (0, .ref (w.2.1 + 404))]) (st' := [.ref (w.2.1 + 404), .ref (w.2.1 + v13)]) (fun _ _ k => e_aload_n dX6_delete_16 0 rfl (e_aload_n dX6_delete_17 1 rfl k)) ?_
  refine es_get (v := .ref (w.2.1 + 405)) xc_6 dX6_delete_18 fl_X6_28 (by decide) (by decide) (cel_404 _ _ _) rfl ?_
  refine es_callVI (as := []) (rest := [.ref (w.2.1 + v13)]) hf xc_7 dX6_delete_21 cs_X6_delete_X7_takeKind ml_X6_136 im_X7_takeKind se_X7_takeKind rfl rfl (Nat.le_of_ble_eq_true rfl) (Nat.le_of_ble_eq_true rfl) (by decide) rfl (cel_405 _ _ _) (fun _ e => t_X7_takeKind N  S14 _ e) (by decide) (fun v17 S16 hf => ?_)
  obtain ⟨g18, hf⟩ := xg hf
  refine es_put xc_8 dX6_delete_24 fl_X6_139 (by decide) (by decide) (xStep_lt g18) (cel_st g18 _ _ _) rfl rfl rfl (by rw [cel_st g18]; rfl) ?_
  refine es_l (pc' := 30) (ls' := [(1, .ref (w.2.1 + v13)), (0, .ref (w.2.1 + 404))]) (st' := [.ref (w.2.1 + v13), .ref (w.2.1 + 404), .ref (w.2.1 + v13)]) (fun _ _ k => e_aload_n dX6_delete_27 0 rfl (e_aload_n dX6_delete_28 1 rfl (e_aload_n dX6_delete_29 0 rfl k))) ?_
  refine es_get (v := .int ((sI S16 v13 1 v17).1 v13 1)) xc_8 dX6_delete_30 fl_X6_139 (by decide) (xStep_lt g18) (cel_st g18 _ _ _) rfl ?_
  refine es_callVI (as := [.int ((sI S16 v13 1 v17).1 v13 1)]) (rest := [.ref (w.2.1 + v13)]) hf xc_6 dX6_delete_33 cs_X6_delete_X6_where ml_X6_148 im_X6_where se_X6_where rfl rfl (Nat.le_of_ble_eq_true rfl) (Nat.le_of_ble_eq_true rfl) (by decide) rfl (cel_404 _ _ _) (fun _ e => t_X6_where N ((sI S16 v13 1 v17).1 v13 1) (sI S16 v13 1 v17) _ e) (by decide) (fun v20 S19 hf => ?_)
  refine es_put xc_8 dX6_delete_36 fl_X6_152 (by decide) (by decide) (xStep_lt g18) (cel_st g18 _ _ _) rfl rfl rfl (by rw [cel_st g18]; rfl) ?_
  refine es_l (pc' := 40) (ls' := [(1, .ref (w.2.1 + v13)), (0, .ref (w.2.1 + 404))]) (st' := [.ref (w.2.1 + 404)]) (fun _ _ k => e_aload_n dX6_delete_39 1 rfl k) ?_
  refine es_get (v := .ref (w.2.1 + 1)) xc_6 dX6_delete_40 fl_X6_9 (by decide) (by decide) (cel_404 _ _ _) rfl ?_
  refine es_l (pc' := 45) (ls' := [(1, .ref (w.2.1 + v13)), (0, .ref (w.2.1 + 404))]) (st' := [.int 34, .ref (w.2.1 + 1)]) (fun _ _ k => e_bipush (v := 34) dX6_delete_43 (by decide) k) ?_
  refine es_callVV (as := [.int 34]) (rest := []) hf xc_9 dX6_delete_45 cs_X6_delete_X9_take ml_X6_122 im_X9_take se_X9_take rfl rfl (Nat.le_of_ble_eq_true rfl) (Nat.le_of_ble_eq_true rfl) (by decide) rfl (cel_1 _ _ _) (fun _ e => t_X9_take N 34 (sI S19 v13 5 v20) _ e) (by decide) (fun S21 hf => ?_)
  exact es_return dX6_delete_48 rfl hf
def f_X6_set (N : Nat)  (S : xS) : Option xr :=
  xcR (f_X5_addStep N 5 S) (fun v17 S16 =>
  xcV (f_X9_pass N S16) (fun S18 =>
  xcI (f_X7_takeKind N S18) (fun v21 S20 =>
  if xStep v17 then
  xcI (f_X6_where N ((sI S20 v17 1 v21).1 v17 1) (sI S20 v17 1 v21)) (fun v24 S23 =>
  xcV (f_X9_take N 35 (sI S23 v17 5 v24)) (fun S25 =>
  xcV (f_X6_puts N v17 (S25.1 v17 1) S25) (fun S27 =>
  xcV (f_X9_take N 34 S27) (fun S29 =>
  some (.inl none, S29)
  )
  )
  )
  )
  else none
  )
  )
  )
set_option maxRecDepth 100000 in
set_option maxHeartbeats 4000000 in
theorem t_X6_set {l : Launch} {w : xW} {g : Nat → xE} (N : Nat)  (S : xS) (r : xr) (hf : f_X6_set N  S = some r) : ES l w g M_X6_set 0 (lv_args 0 [.ref (w.2.1 + 404)]) [] S r := by
  show ES l w g M_X6_set 0 [(0, .ref (w.2.1 + 404))] [] S r
  unfold f_X6_set at hf
  refine es_l (pc' := 1) (ls' := [(0, .ref (w.2.1 + 404))]) (st' := [.ref (w.2.1 + 404)]) (fun _ _ k => e_aload_n dX6_set_0 0 rfl k) ?_
  refine es_get (v := .ref (w.2.1 + 97)) xc_6 dX6_set_1 fl_X6_19 (by decide) (by decide) (cel_404 _ _ _) rfl ?_
  refine es_l (pc' := 5) (ls' := [(0, .ref (w.2.1 + 404))]) (st' := [.int 5, .ref (w.2.1 + 97)]) (fun _ _ k => e_iconst (v := 5) dX6_set_4 (by decide) k) ?_
  refine es_callVR (as := [.int 5]) (rest := []) hf xc_5 dX6_set_5 cs_X6_set_X5_addStep ml_X6_91 im_X5_addStep se_X5_addStep rfl rfl (Nat.le_of_ble_eq_true rfl) (Nat.le_of_ble_eq_true rfl) (by decide) rfl (cel_97 _ _ _) (fun _ e => t_X5_addStep N 5 S _ e) (by decide) (fun v17 S16 hf => ?_)
  refine es_l (pc' := 10) (ls' := [(1, .ref (w.2.1 + v17)), (0, .ref (w.2.1 + 404))]) (st' := [.ref (w.2.1 + 404)]) (fun _ _ k => e_astore_n (ls' := [(1, .ref (w.2.1 + v17)), (0, .ref (w.2.1 + 404))]) dX6_set_8 (by decide) rfl (e_aload_n dX6_set_9 1 rfl k)) ?_
  refine es_get (v := .ref (w.2.1 + 1)) xc_6 dX6_set_10 fl_X6_9 (by decide) (by decide) (cel_404 _ _ _) rfl ?_
  refine es_callVV (as := []) (rest := []) hf xc_9 dX6_set_13 cs_X6_set_X9_pass ml_X6_95 im_X9_pass se_X9_pass rfl rfl (Nat.le_of_ble_eq_true rfl) (Nat.le_of_ble_eq_true rfl) (by decide) rfl (cel_1 _ _ _) (fun _ e => t_X9_pass N  S16 _ e) (by decide) (fun S18 hf => ?_)
  refine es_l (pc' := 18) (ls' := [(1, .ref (w.2.1 + v17)), (0, .ref (w.2.1 + 404))]) (st' := [.ref (w.2.1 + 404), .ref (w.2.1 + v17)]) (fun _ _ k => e_aload_n dX6_set_16 0 rfl (e_aload_n dX6_set_17 1 rfl k)) ?_
  refine es_get (v := .ref (w.2.1 + 405)) xc_6 dX6_set_18 fl_X6_28 (by decide) (by decide) (cel_404 _ _ _) rfl ?_
  refine es_callVI (as := []) (rest := [.ref (w.2.1 + v17)]) hf xc_7 dX6_set_21 cs_X6_set_X7_takeKind ml_X6_136 im_X7_takeKind se_X7_takeKind rfl rfl (Nat.le_of_ble_eq_true rfl) (Nat.le_of_ble_eq_true rfl) (by decide) rfl (cel_405 _ _ _) (fun _ e => t_X7_takeKind N  S18 _ e) (by decide) (fun v21 S20 hf => ?_)
  obtain ⟨g22, hf⟩ := xg hf
  refine es_put xc_8 dX6_set_24 fl_X6_139 (by decide) (by decide) (xStep_lt g22) (cel_st g22 _ _ _) rfl rfl rfl (by rw [cel_st g22]; rfl) ?_
  refine es_l (pc' := 30) (ls' := [(1, .ref (w.2.1 + v17)), (0, .ref (w.2.1 + 404))]) (st' := [.ref (w.2.1 + v17), .ref (w.2.1 + 404), .ref (w.2.1 + v17)]) (fun _ _ k => e_aload_n dX6_set_27 0 rfl (e_aload_n dX6_set_28 1 rfl (e_aload_n dX6_set_29 0 rfl k))) ?_
  refine es_get (v := .int ((sI S20 v17 1 v21).1 v17 1)) xc_8 dX6_set_30 fl_X6_139 (by decide) (xStep_lt g22) (cel_st g22 _ _ _) rfl ?_
  refine es_callVI (as := [.int ((sI S20 v17 1 v21).1 v17 1)]) (rest := [.ref (w.2.1 + v17)]) hf xc_6 dX6_set_33 cs_X6_set_X6_where ml_X6_148 im_X6_where se_X6_where rfl rfl (Nat.le_of_ble_eq_true rfl) (Nat.le_of_ble_eq_true rfl) (by decide) rfl (cel_404 _ _ _) (fun _ e => t_X6_where N ((sI S20 v17 1 v21).1 v17 1) (sI S20 v17 1 v21) _ e) (by decide) (fun v24 S23 hf => ?_)
  refine es_put xc_8 dX6_set_36 fl_X6_152 (by decide) (by decide) (xStep_lt g22) (cel_st g22 _ _ _) rfl rfl rfl (by rw [cel_st g22]; rfl) ?_
  refine es_l (pc' := 40) (ls' := [(1, .ref (w.2.1 + v17)), (0, .ref (w.2.1 + 404))]) (st' := [.ref (w.2.1 + 404)]) (fun _ _ k => e_aload_n dX6_set_39 1 rfl k) ?_
  refine es_get (v := .ref (w.2.1 + 1)) xc_6 dX6_set_40 fl_X6_9 (by decide) (by decide) (cel_404 _ _ _) rfl ?_
  refine es_l (pc' := 45) (ls' := [(1, .ref (w.2.1 + v17)), (0, .ref (w.2.1 + 404))]) (st' := [.int 35, .ref (w.2.1 + 1)]) (fun _ _ k => e_bipush (v := 35) dX6_set_43 (by decide) k) ?_
  refine es_callVV (as := [.int 35]) (rest := []) hf xc_9 dX6_set_45 cs_X6_set_X9_take ml_X6_122 im_X9_take se_X9_take rfl rfl (Nat.le_of_ble_eq_true rfl) (Nat.le_of_ble_eq_true rfl) (by decide) rfl (cel_1 _ _ _) (fun _ e => t_X9_take N 35 (sI S23 v17 5 v24) _ e) (by decide) (fun S25 hf => ?_)
  refine es_l (pc' := 51) (ls' := [(1, .ref (w.2.1 + v17)), (0, .ref (w.2.1 + 404))]) (st' := [.ref (w.2.1 + v17), .ref (w.2.1 + v17), .ref (w.2.1 + 404)]) (fun _ _ k => e_aload_n dX6_set_48 1 rfl (e_aload_n dX6_set_49 0 rfl (e_aload_n dX6_set_50 0 rfl k))) ?_
  refine es_get (v := .int (S25.1 v17 1)) xc_8 dX6_set_51 fl_X6_139 (by decide) (xStep_lt g22) (cel_st g22 _ _ _) rfl ?_
  refine es_callVV (as := [.ref (w.2.1 + v17), .int (S25.1 v17 1)]) (rest := []) hf xc_6 dX6_set_54 cs_X6_set_X6_puts ml_X6_144 im_X6_puts se_X6_puts rfl rfl (Nat.le_of_ble_eq_true rfl) (Nat.le_of_ble_eq_true rfl) (by decide) rfl (cel_404 _ _ _) (fun _ e => t_X6_puts N v17 (S25.1 v17 1) S25 _ e) (by decide) (fun S27 hf => ?_)
  refine es_l (pc' := 58) (ls' := [(1, .ref (w.2.1 + v17)), (0, .ref (w.2.1 + 404))]) (st' := [.ref (w.2.1 + 404)]) (fun _ _ k => e_aload_n dX6_set_57 1 rfl k) ?_
  refine es_get (v := .ref (w.2.1 + 1)) xc_6 dX6_set_58 fl_X6_9 (by decide) (by decide) (cel_404 _ _ _) rfl ?_
  refine es_l (pc' := 63) (ls' := [(1, .ref (w.2.1 + v17)), (0, .ref (w.2.1 + 404))]) (st' := [.int 34, .ref (w.2.1 + 1)]) (fun _ _ k => e_bipush (v := 34) dX6_set_61 (by decide) k) ?_
  refine es_callVV (as := [.int 34]) (rest := []) hf xc_9 dX6_set_63 cs_X6_set_X9_take ml_X6_122 im_X9_take se_X9_take rfl rfl (Nat.le_of_ble_eq_true rfl) (Nat.le_of_ble_eq_true rfl) (by decide) rfl (cel_1 _ _ _) (fun _ e => t_X9_take N 34 S27 _ e) (by decide) (fun S29 hf => ?_)
  exact es_return dX6_set_66 rfl hf
def f_X6_let (N : Nat)  (S : xS) : Option xr :=
  xcR (f_X5_addStep N 6 S) (fun v15 S14 =>
  xcV (f_X9_pass N S14) (fun S16 =>
  xcI (f_X7_takeVariable N S16) (fun v19 S18 =>
  if xStep v15 then
  xcV (f_X9_take N 21 (sI S18 v15 4 v19)) (fun S21 =>
  xcI (f_X1_read N 0 S21) (fun v24 S23 =>
  xcV (f_X9_take N 34 (sI S23 v15 6 v24)) (fun S25 =>
  some (.inl none, S25)
  )
  )
  )
  else none
  )
  )
  )
set_option maxRecDepth 100000 in
set_option maxHeartbeats 4000000 in
theorem t_X6_let {l : Launch} {w : xW} {g : Nat → xE} (N : Nat)  (S : xS) (r : xr) (hf : f_X6_let N  S = some r) : ES l w g M_X6_let 0 (lv_args 0 [.ref (w.2.1 + 404)]) [] S r := by
  show ES l w g M_X6_let 0 [(0, .ref (w.2.1 + 404))] [] S r
  unfold f_X6_let at hf
  refine es_l (pc' := 1) (ls' := [(0, .ref (w.2.1 + 404))]) (st' := [.ref (w.2.1 + 404)]) (fun _ _ k => e_aload_n dX6_let_0 0 rfl k) ?_
  refine es_get (v := .ref (w.2.1 + 97)) xc_6 dX6_let_1 fl_X6_19 (by decide) (by decide) (cel_404 _ _ _) rfl ?_
  refine es_l (pc' := 6) (ls' := [(0, .ref (w.2.1 + 404))]) (st' := [.int 6, .ref (w.2.1 + 97)]) (fun _ _ k => e_bipush (v := 6) dX6_let_4 (by decide) k) ?_
  refine es_callVR (as := [.int 6]) (rest := []) hf xc_5 dX6_let_6 cs_X6_let_X5_addStep ml_X6_91 im_X5_addStep se_X5_addStep rfl rfl (Nat.le_of_ble_eq_true rfl) (Nat.le_of_ble_eq_true rfl) (by decide) rfl (cel_97 _ _ _) (fun _ e => t_X5_addStep N 6 S _ e) (by decide) (fun v15 S14 hf => ?_)
  refine es_l (pc' := 11) (ls' := [(1, .ref (w.2.1 + v15)), (0, .ref (w.2.1 + 404))]) (st' := [.ref (w.2.1 + 404)]) (fun _ _ k => e_astore_n (ls' := [(1, .ref (w.2.1 + v15)), (0, .ref (w.2.1 + 404))]) dX6_let_9 (by decide) rfl (e_aload_n dX6_let_10 1 rfl k)) ?_
  refine es_get (v := .ref (w.2.1 + 1)) xc_6 dX6_let_11 fl_X6_9 (by decide) (by decide) (cel_404 _ _ _) rfl ?_
  refine es_callVV (as := []) (rest := []) hf xc_9 dX6_let_14 cs_X6_let_X9_pass ml_X6_95 im_X9_pass se_X9_pass rfl rfl (Nat.le_of_ble_eq_true rfl) (Nat.le_of_ble_eq_true rfl) (by decide) rfl (cel_1 _ _ _) (fun _ e => t_X9_pass N  S14 _ e) (by decide) (fun S16 hf => ?_)
  refine es_l (pc' := 19) (ls' := [(1, .ref (w.2.1 + v15)), (0, .ref (w.2.1 + 404))]) (st' := [.ref (w.2.1 + 404), .ref (w.2.1 + v15)]) (fun _ _ k => e_aload_n dX6_let_17 0 rfl (e_aload_n dX6_let_18 1 rfl k)) ?_
  refine es_get (v := .ref (w.2.1 + 405)) xc_6 dX6_let_19 fl_X6_28 (by decide) (by decide) (cel_404 _ _ _) rfl ?_
  refine es_callVI (as := []) (rest := [.ref (w.2.1 + v15)]) hf xc_7 dX6_let_22 cs_X6_let_X7_takeVariable ml_X6_169 im_X7_takeVariable se_X7_takeVariable rfl rfl (Nat.le_of_ble_eq_true rfl) (Nat.le_of_ble_eq_true rfl) (by decide) rfl (cel_405 _ _ _) (fun _ e => t_X7_takeVariable N  S16 _ e) (by decide) (fun v19 S18 hf => ?_)
  obtain ⟨g20, hf⟩ := xg hf
  refine es_put xc_8 dX6_let_25 fl_X6_172 (by decide) (by decide) (xStep_lt g20) (cel_st g20 _ _ _) rfl rfl rfl (by rw [cel_st g20]; rfl) ?_
  refine es_l (pc' := 29) (ls' := [(1, .ref (w.2.1 + v15)), (0, .ref (w.2.1 + 404))]) (st' := [.ref (w.2.1 + 404)]) (fun _ _ k => e_aload_n dX6_let_28 1 rfl k) ?_
  refine es_get (v := .ref (w.2.1 + 1)) xc_6 dX6_let_29 fl_X6_9 (by decide) (by decide) (cel_404 _ _ _) rfl ?_
  refine es_l (pc' := 34) (ls' := [(1, .ref (w.2.1 + v15)), (0, .ref (w.2.1 + 404))]) (st' := [.int 21, .ref (w.2.1 + 1)]) (fun _ _ k => e_bipush (v := 21) dX6_let_32 (by decide) k) ?_
  refine es_callVV (as := [.int 21]) (rest := []) hf xc_9 dX6_let_34 cs_X6_let_X9_take ml_X6_122 im_X9_take se_X9_take rfl rfl (Nat.le_of_ble_eq_true rfl) (Nat.le_of_ble_eq_true rfl) (by decide) rfl (cel_1 _ _ _) (fun _ e => t_X9_take N 21 (sI S18 v15 4 v19) _ e) (by decide) (fun S21 hf => ?_)
  refine es_l (pc' := 39) (ls' := [(1, .ref (w.2.1 + v15)), (0, .ref (w.2.1 + 404))]) (st' := [.ref (w.2.1 + 404), .ref (w.2.1 + v15)]) (fun _ _ k => e_aload_n dX6_let_37 0 rfl (e_aload_n dX6_let_38 1 rfl k)) ?_
  refine es_get (v := .ref (w.2.1 + 407)) xc_6 dX6_let_39 fl_X6_37 (by decide) (by decide) (cel_404 _ _ _) rfl ?_
  refine es_l (pc' := 43) (ls' := [(1, .ref (w.2.1 + v15)), (0, .ref (w.2.1 + 404))]) (st' := [.int 0, .ref (w.2.1 + 407), .ref (w.2.1 + v15)]) (fun _ _ k => e_iconst (v := 0) dX6_let_42 (by decide) k) ?_
  refine es_callVI (as := [.int 0]) (rest := [.ref (w.2.1 + v15)]) hf xc_1 dX6_let_43 cs_X6_let_X1_read ml_X6_154 im_X1_read se_X1_read rfl rfl (Nat.le_of_ble_eq_true rfl) (Nat.le_of_ble_eq_true rfl) (by decide) rfl (cel_407 _ _ _) (fun _ e => t_X1_read N 0 S21 _ e) (by decide) (fun v24 S23 hf => ?_)
  refine es_put xc_8 dX6_let_46 fl_X6_174 (by decide) (by decide) (xStep_lt g20) (cel_st g20 _ _ _) rfl rfl rfl (by rw [cel_st g20]; rfl) ?_
  refine es_l (pc' := 50) (ls' := [(1, .ref (w.2.1 + v15)), (0, .ref (w.2.1 + 404))]) (st' := [.ref (w.2.1 + 404)]) (fun _ _ k => e_aload_n dX6_let_49 1 rfl k) ?_
  refine es_get (v := .ref (w.2.1 + 1)) xc_6 dX6_let_50 fl_X6_9 (by decide) (by decide) (cel_404 _ _ _) rfl ?_
  refine es_l (pc' := 55) (ls' := [(1, .ref (w.2.1 + v15)), (0, .ref (w.2.1 + 404))]) (st' := [.int 34, .ref (w.2.1 + 1)]) (fun _ _ k => e_bipush (v := 34) dX6_let_53 (by decide) k) ?_
  refine es_callVV (as := [.int 34]) (rest := []) hf xc_9 dX6_let_55 cs_X6_let_X9_take ml_X6_122 im_X9_take se_X9_take rfl rfl (Nat.le_of_ble_eq_true rfl) (Nat.le_of_ble_eq_true rfl) (by decide) rfl (cel_1 _ _ _) (fun _ e => t_X9_take N 34 (sI S23 v15 6 v24) _ e) (by decide) (fun S25 hf => ?_)
  exact es_return dX6_let_58 rfl hf
def f_X6_output (N : Nat)  (S : xS) : Option xr :=
  xcR (f_X5_addStep N 7 S) (fun v11 S10 =>
  xcV (f_X9_pass N S10) (fun S12 =>
  xcI (f_X1_read N 0 S12) (fun v15 S14 =>
  if xStep v11 then
  xcV (f_X9_take N 34 (sI S14 v11 6 v15)) (fun S17 =>
  some (.inl none, S17)
  )
  else none
  )
  )
  )
set_option maxRecDepth 100000 in
set_option maxHeartbeats 4000000 in
theorem t_X6_output {l : Launch} {w : xW} {g : Nat → xE} (N : Nat)  (S : xS) (r : xr) (hf : f_X6_output N  S = some r) : ES l w g M_X6_output 0 (lv_args 0 [.ref (w.2.1 + 404)]) [] S r := by
  show ES l w g M_X6_output 0 [(0, .ref (w.2.1 + 404))] [] S r
  unfold f_X6_output at hf
  refine es_l (pc' := 1) (ls' := [(0, .ref (w.2.1 + 404))]) (st' := [.ref (w.2.1 + 404)]) (fun _ _ k => e_aload_n dX6_output_0 0 rfl k) ?_
  refine es_get (v := .ref (w.2.1 + 97)) xc_6 dX6_output_1 fl_X6_19 (by decide) (by decide) (cel_404 _ _ _) rfl ?_
  refine es_l (pc' := 6) (ls' := [(0, .ref (w.2.1 + 404))]) (st' := [.int 7, .ref (w.2.1 + 97)]) (fun _ _ k => e_bipush (v := 7) dX6_output_4 (by decide) k) ?_
  refine es_callVR (as := [.int 7]) (rest := []) hf xc_5 dX6_output_6 cs_X6_output_X5_addStep ml_X6_91 im_X5_addStep se_X5_addStep rfl rfl (Nat.le_of_ble_eq_true rfl) (Nat.le_of_ble_eq_true rfl) (by decide) rfl (cel_97 _ _ _) (fun _ e => t_X5_addStep N 7 S _ e) (by decide) (fun v11 S10 hf => ?_)
  refine es_l (pc' := 11) (ls' := [(1, .ref (w.2.1 + v11)), (0, .ref (w.2.1 + 404))]) (st' := [.ref (w.2.1 + 404)]) (fun _ _ k => e_astore_n (ls' := [(1, .ref (w.2.1 + v11)), (0, .ref (w.2.1 + 404))]) dX6_output_9 (by decide) rfl (e_aload_n dX6_output_10 1 rfl k)) ?_
  refine es_get (v := .ref (w.2.1 + 1)) xc_6 dX6_output_11 fl_X6_9 (by decide) (by decide) (cel_404 _ _ _) rfl ?_
  refine es_callVV (as := []) (rest := []) hf xc_9 dX6_output_14 cs_X6_output_X9_pass ml_X6_95 im_X9_pass se_X9_pass rfl rfl (Nat.le_of_ble_eq_true rfl) (Nat.le_of_ble_eq_true rfl) (by decide) rfl (cel_1 _ _ _) (fun _ e => t_X9_pass N  S10 _ e) (by decide) (fun S12 hf => ?_)
  refine es_l (pc' := 19) (ls' := [(1, .ref (w.2.1 + v11)), (0, .ref (w.2.1 + 404))]) (st' := [.ref (w.2.1 + 404), .ref (w.2.1 + v11)]) (fun _ _ k => e_aload_n dX6_output_17 0 rfl (e_aload_n dX6_output_18 1 rfl k)) ?_
  refine es_get (v := .ref (w.2.1 + 407)) xc_6 dX6_output_19 fl_X6_37 (by decide) (by decide) (cel_404 _ _ _) rfl ?_
  refine es_l (pc' := 23) (ls' := [(1, .ref (w.2.1 + v11)), (0, .ref (w.2.1 + 404))]) (st' := [.int 0, .ref (w.2.1 + 407), .ref (w.2.1 + v11)]) (fun _ _ k => e_iconst (v := 0) dX6_output_22 (by decide) k) ?_
  refine es_callVI (as := [.int 0]) (rest := [.ref (w.2.1 + v11)]) hf xc_1 dX6_output_23 cs_X6_output_X1_read ml_X6_154 im_X1_read se_X1_read rfl rfl (Nat.le_of_ble_eq_true rfl) (Nat.le_of_ble_eq_true rfl) (by decide) rfl (cel_407 _ _ _) (fun _ e => t_X1_read N 0 S12 _ e) (by decide) (fun v15 S14 hf => ?_)
  obtain ⟨g16, hf⟩ := xg hf
  refine es_put xc_8 dX6_output_26 fl_X6_174 (by decide) (by decide) (xStep_lt g16) (cel_st g16 _ _ _) rfl rfl rfl (by rw [cel_st g16]; rfl) ?_
  refine es_l (pc' := 30) (ls' := [(1, .ref (w.2.1 + v11)), (0, .ref (w.2.1 + 404))]) (st' := [.ref (w.2.1 + 404)]) (fun _ _ k => e_aload_n dX6_output_29 1 rfl k) ?_
  refine es_get (v := .ref (w.2.1 + 1)) xc_6 dX6_output_30 fl_X6_9 (by decide) (by decide) (cel_404 _ _ _) rfl ?_
  refine es_l (pc' := 35) (ls' := [(1, .ref (w.2.1 + v11)), (0, .ref (w.2.1 + 404))]) (st' := [.int 34, .ref (w.2.1 + 1)]) (fun _ _ k => e_bipush (v := 34) dX6_output_33 (by decide) k) ?_
  refine es_callVV (as := [.int 34]) (rest := []) hf xc_9 dX6_output_35 cs_X6_output_X9_take ml_X6_122 im_X9_take se_X9_take rfl rfl (Nat.le_of_ble_eq_true rfl) (Nat.le_of_ble_eq_true rfl) (by decide) rfl (cel_1 _ _ _) (fun _ e => t_X9_take N 34 (sI S14 v11 6 v15) _ e) (by decide) (fun S17 hf => ?_)
  exact es_return dX6_output_38 rfl hf
def f_X7_openBlock (N : Nat) (x1 : Int32) (S : xS) : Option xr :=
  xcV (f_X7_enter N 31 S) (fun S4 =>
  if xin (S4.1 405 4) 10 then
  some (.inl none, sI (sI S4 406 ((S4.1 405 4).toNatClampNeg) x1) 405 4 ((S4.1 405 4) + 1))
  else none
  )
set_option maxRecDepth 100000 in
set_option maxHeartbeats 4000000 in
theorem t_X7_openBlock {l : Launch} {w : xW} {g : Nat → xE} (N : Nat) (x1 : Int32) (S : xS) (r : xr) (hf : f_X7_openBlock N x1 S = some r) : ES l w g M_X7_openBlock 0 (lv_args 0 [.ref (w.2.1 + 405), .int x1]) [] S r := by
  show ES l w g M_X7_openBlock 0 [(0, .ref (w.2.1 + 405)), (1, .int x1)] [] S r
  unfold f_X7_openBlock at hf
  refine es_l (pc' := 3) (ls' := [(0, .ref (w.2.1 + 405)), (1, .int x1)]) (st' := [.int 31, .ref (w.2.1 + 405)]) (fun _ _ k => e_aload_n dX7_openBlock_0 0 rfl (e_bipush (v := 31) dX7_openBlock_1 (by decide) k)) ?_
  refine es_callVV (as := [.int 31]) (rest := []) hf xc_7 dX7_openBlock_3 cs_X7_openBlock_X7_enter ml_X7_50 im_X7_enter se_X7_enter rfl rfl (Nat.le_of_ble_eq_true rfl) (Nat.le_of_ble_eq_true rfl) (by decide) rfl (cel_405 _ _ _) (fun _ e => t_X7_enter N 31 S _ e) (by decide) (fun S4 hf => ?_)
  refine es_l (pc' := 7) (ls' := [(0, .ref (w.2.1 + 405)), (1, .int x1)]) (st' := [.ref (w.2.1 + 405)]) (fun _ _ k => e_aload_n dX7_openBlock_6 0 rfl k) ?_
  refine es_get (v := .ref (w.2.1 + 406)) xc_7 dX7_openBlock_7 fl_X7_9 (by decide) (by decide) (cel_405 _ _ _) rfl ?_
  refine es_l (pc' := 11) (ls' := [(0, .ref (w.2.1 + 405)), (1, .int x1)]) (st' := [.ref (w.2.1 + 405), .ref (w.2.1 + 406)]) (fun _ _ k => e_aload_n dX7_openBlock_10 0 rfl k) ?_
  refine es_get (v := .int (S4.1 405 4)) xc_7 dX7_openBlock_11 fl_X7_27 (by decide) (by decide) (cel_405 _ _ _) rfl ?_
  refine es_l (pc' := 15) (ls' := [(0, .ref (w.2.1 + 405)), (1, .int x1)]) (st' := [.int x1, .int (S4.1 405 4), .ref (w.2.1 + 406)]) (fun _ _ k => e_iload_n dX7_openBlock_14 1 rfl k) ?_
  obtain ⟨g6, hf⟩ := xg hf
  refine es_iast dX7_openBlock_15 (by decide) (cel_406 _) g6 ?_
  refine es_l (pc' := 18) (ls' := [(0, .ref (w.2.1 + 405)), (1, .int x1)]) (st' := [.ref (w.2.1 + 405), .ref (w.2.1 + 405)]) (fun _ _ k => e_aload_n dX7_openBlock_16 0 rfl (e_dup dX7_openBlock_17 rfl k)) ?_
  refine es_get (v := .int (S4.1 405 4)) xc_7 dX7_openBlock_18 fl_X7_27 (by decide) (by decide) (cel_405 _ _ _) rfl ?_
  refine es_l (pc' := 23) (ls' := [(0, .ref (w.2.1 + 405)), (1, .int x1)]) (st' := [.int ((S4.1 405 4) + 1), .ref (w.2.1 + 405)]) (fun _ _ k => e_iconst (v := 1) dX7_openBlock_21 (by decide) (e_iadd dX7_openBlock_22 k)) ?_
  refine es_put xc_7 dX7_openBlock_23 fl_X7_27 (by decide) (by decide) (by decide) (cel_405 _ _ _) rfl rfl rfl rfl ?_
  exact es_return dX7_openBlock_26 rfl hf
def f_X6_each (N : Nat)  (S : xS) : Option xr :=
  xcR (f_X5_addStep N 8 S) (fun v20 S19 =>
  xcV (f_X9_pass N S19) (fun S21 =>
  xcI (f_X7_takeKind N S21) (fun v24 S23 =>
  if xStep v20 then
  xcV (f_X9_take N 9 (sI S23 v20 1 v24)) (fun S26 =>
  xcI (f_X7_takeField N (S26.1 v20 1) S26) (fun v29 S28 =>
  xcI (f_X6_where N ((sI S28 v20 2 v29).1 v20 1) (sI S28 v20 2 v29)) (fun v31 S30 =>
  xcR (f_X5_addStep N 48 (sI (sI S30 v20 5 v31) v20 3 ((sI S30 v20 5 v31).1 405 4))) (fun v33 S32 =>
  if xStep v33 then
  xcV (f_X7_openBlock N ((sI (sI S30 v20 5 v31) v20 3 ((sI S30 v20 5 v31).1 405 4)).1 97 4) (sI (sI S32 v33 1 (S32.1 v20 1)) v33 3 ((sI S32 v33 1 (S32.1 v20 1)).1 v20 3))) (fun S35 =>
  some (.inl none, S35)
  )
  else none
  )
  )
  )
  )
  else none
  )
  )
  )
set_option maxRecDepth 100000 in
set_option maxHeartbeats 4000000 in
theorem t_X6_each {l : Launch} {w : xW} {g : Nat → xE} (N : Nat)  (S : xS) (r : xr) (hf : f_X6_each N  S = some r) : ES l w g M_X6_each 0 (lv_args 0 [.ref (w.2.1 + 404)]) [] S r := by
  show ES l w g M_X6_each 0 [(0, .ref (w.2.1 + 404))] [] S r
  unfold f_X6_each at hf
  refine es_l (pc' := 1) (ls' := [(0, .ref (w.2.1 + 404))]) (st' := [.ref (w.2.1 + 404)]) (fun _ _ k => e_aload_n dX6_each_0 0 rfl k) ?_
  refine es_get (v := .ref (w.2.1 + 97)) xc_6 dX6_each_1 fl_X6_19 (by decide) (by decide) (cel_404 _ _ _) rfl ?_
  refine es_l (pc' := 6) (ls' := [(0, .ref (w.2.1 + 404))]) (st' := [.int 8, .ref (w.2.1 + 97)]) (fun _ _ k => e_bipush (v := 8) dX6_each_4 (by decide) k) ?_
  refine es_callVR (as := [.int 8]) (rest := []) hf xc_5 dX6_each_6 cs_X6_each_X5_addStep ml_X6_91 im_X5_addStep se_X5_addStep rfl rfl (Nat.le_of_ble_eq_true rfl) (Nat.le_of_ble_eq_true rfl) (by decide) rfl (cel_97 _ _ _) (fun _ e => t_X5_addStep N 8 S _ e) (by decide) (fun v20 S19 hf => ?_)
  refine es_l (pc' := 11) (ls' := [(1, .ref (w.2.1 + v20)), (0, .ref (w.2.1 + 404))]) (st' := [.ref (w.2.1 + 404)]) (fun _ _ k => e_astore_n (ls' := [(1, .ref (w.2.1 + v20)), (0, .ref (w.2.1 + 404))]) dX6_each_9 (by decide) rfl (e_aload_n dX6_each_10 1 rfl k)) ?_
  refine es_get (v := .ref (w.2.1 + 1)) xc_6 dX6_each_11 fl_X6_9 (by decide) (by decide) (cel_404 _ _ _) rfl ?_
  refine es_callVV (as := []) (rest := []) hf xc_9 dX6_each_14 cs_X6_each_X9_pass ml_X6_95 im_X9_pass se_X9_pass rfl rfl (Nat.le_of_ble_eq_true rfl) (Nat.le_of_ble_eq_true rfl) (by decide) rfl (cel_1 _ _ _) (fun _ e => t_X9_pass N  S19 _ e) (by decide) (fun S21 hf => ?_)
  refine es_l (pc' := 19) (ls' := [(1, .ref (w.2.1 + v20)), (0, .ref (w.2.1 + 404))]) (st' := [.ref (w.2.1 + 404), .ref (w.2.1 + v20)]) (fun _ _ k => e_aload_n dX6_each_17 0 rfl (e_aload_n dX6_each_18 1 rfl k)) ?_
  refine es_get (v := .ref (w.2.1 + 405)) xc_6 dX6_each_19 fl_X6_28 (by decide) (by decide) (cel_404 _ _ _) rfl ?_
  refine es_callVI (as := []) (rest := [.ref (w.2.1 + v20)]) hf xc_7 dX6_each_22 cs_X6_each_X7_takeKind ml_X6_136 im_X7_takeKind se_X7_takeKind rfl rfl (Nat.le_of_ble_eq_true rfl) (Nat.le_of_ble_eq_true rfl) (by decide) rfl (cel_405 _ _ _) (fun _ e => t_X7_takeKind N  S21 _ e) (by decide) (fun v24 S23 hf => ?_)
  obtain ⟨g25, hf⟩ := xg hf
  refine es_put xc_8 dX6_each_25 fl_X6_139 (by decide) (by decide) (xStep_lt g25) (cel_st g25 _ _ _) rfl rfl rfl (by rw [cel_st g25]; rfl) ?_
  refine es_l (pc' := 29) (ls' := [(1, .ref (w.2.1 + v20)), (0, .ref (w.2.1 + 404))]) (st' := [.ref (w.2.1 + 404)]) (fun _ _ k => e_aload_n dX6_each_28 1 rfl k) ?_
  refine es_get (v := .ref (w.2.1 + 1)) xc_6 dX6_each_29 fl_X6_9 (by decide) (by decide) (cel_404 _ _ _) rfl ?_
  refine es_l (pc' := 34) (ls' := [(1, .ref (w.2.1 + v20)), (0, .ref (w.2.1 + 404))]) (st' := [.int 9, .ref (w.2.1 + 1)]) (fun _ _ k => e_bipush (v := 9) dX6_each_32 (by decide) k) ?_
  refine es_callVV (as := [.int 9]) (rest := []) hf xc_9 dX6_each_34 cs_X6_each_X9_take ml_X6_122 im_X9_take se_X9_take rfl rfl (Nat.le_of_ble_eq_true rfl) (Nat.le_of_ble_eq_true rfl) (by decide) rfl (cel_1 _ _ _) (fun _ e => t_X9_take N 9 (sI S23 v20 1 v24) _ e) (by decide) (fun S26 hf => ?_)
  refine es_l (pc' := 39) (ls' := [(1, .ref (w.2.1 + v20)), (0, .ref (w.2.1 + 404))]) (st' := [.ref (w.2.1 + 404), .ref (w.2.1 + v20)]) (fun _ _ k => e_aload_n dX6_each_37 0 rfl (e_aload_n dX6_each_38 1 rfl k)) ?_
  refine es_get (v := .ref (w.2.1 + 405)) xc_6 dX6_each_39 fl_X6_28 (by decide) (by decide) (cel_404 _ _ _) rfl ?_
  refine es_l (pc' := 43) (ls' := [(1, .ref (w.2.1 + v20)), (0, .ref (w.2.1 + 404))]) (st' := [.ref (w.2.1 + v20), .ref (w.2.1 + 405), .ref (w.2.1 + v20)]) (fun _ _ k => e_aload_n dX6_each_42 0 rfl k) ?_
  refine es_get (v := .int (S26.1 v20 1)) xc_8 dX6_each_43 fl_X6_139 (by decide) (xStep_lt g25) (cel_st g25 _ _ _) rfl ?_
  refine es_callVI (as := [.int (S26.1 v20 1)]) (rest := [.ref (w.2.1 + v20)]) hf xc_7 dX6_each_46 cs_X6_each_X7_takeField ml_X6_177 im_X7_takeField se_X7_takeField rfl rfl (Nat.le_of_ble_eq_true rfl) (Nat.le_of_ble_eq_true rfl) (by decide) rfl (cel_405 _ _ _) (fun _ e => t_X7_takeField N (S26.1 v20 1) S26 _ e) (by decide) (fun v29 S28 hf => ?_)
  refine es_put xc_8 dX6_each_49 fl_X6_180 (by decide) (by decide) (xStep_lt g25) (cel_st g25 _ _ _) rfl rfl rfl (by rw [cel_st g25]; rfl) ?_
  refine es_l (pc' := 55) (ls' := [(1, .ref (w.2.1 + v20)), (0, .ref (w.2.1 + 404))]) (st' := [.ref (w.2.1 + v20), .ref (w.2.1 + 404), .ref (w.2.1 + v20)]) (fun _ _ k => e_aload_n dX6_each_52 0 rfl (e_aload_n dX6_each_53 1 rfl (e_aload_n dX6_each_54 0 rfl k))) ?_
  refine es_get (v := .int ((sI S28 v20 2 v29).1 v20 1)) xc_8 dX6_each_55 fl_X6_139 (by decide) (xStep_lt g25) (cel_st g25 _ _ _) rfl ?_
  refine es_callVI (as := [.int ((sI S28 v20 2 v29).1 v20 1)]) (rest := [.ref (w.2.1 + v20)]) hf xc_6 dX6_each_58 cs_X6_each_X6_where ml_X6_148 im_X6_where se_X6_where rfl rfl (Nat.le_of_ble_eq_true rfl) (Nat.le_of_ble_eq_true rfl) (by decide) rfl (cel_404 _ _ _) (fun _ e => t_X6_where N ((sI S28 v20 2 v29).1 v20 1) (sI S28 v20 2 v29) _ e) (by decide) (fun v31 S30 hf => ?_)
  refine es_put xc_8 dX6_each_61 fl_X6_152 (by decide) (by decide) (xStep_lt g25) (cel_st g25 _ _ _) rfl rfl rfl (by rw [cel_st g25]; rfl) ?_
  refine es_l (pc' := 66) (ls' := [(1, .ref (w.2.1 + v20)), (0, .ref (w.2.1 + 404))]) (st' := [.ref (w.2.1 + 404), .ref (w.2.1 + v20)]) (fun _ _ k => e_aload_n dX6_each_64 0 rfl (e_aload_n dX6_each_65 1 rfl k)) ?_
  refine es_get (v := .ref (w.2.1 + 405)) xc_6 dX6_each_66 fl_X6_28 (by decide) (by decide) (cel_404 _ _ _) rfl ?_
  refine es_get (v := .int ((sI S30 v20 5 v31).1 405 4)) xc_7 dX6_each_69 fl_X6_182 (by decide) (by decide) (cel_405 _ _ _) rfl ?_
  refine es_put xc_8 dX6_each_72 fl_X6_185 (by decide) (by decide) (xStep_lt g25) (cel_st g25 _ _ _) rfl rfl rfl (by rw [cel_st g25]; rfl) ?_
  refine es_l (pc' := 76) (ls' := [(1, .ref (w.2.1 + v20)), (0, .ref (w.2.1 + 404))]) (st' := [.ref (w.2.1 + 404)]) (fun _ _ k => e_aload_n dX6_each_75 1 rfl k) ?_
  refine es_get (v := .ref (w.2.1 + 97)) xc_6 dX6_each_76 fl_X6_19 (by decide) (by decide) (cel_404 _ _ _) rfl ?_
  refine es_get (v := .int ((sI (sI S30 v20 5 v31) v20 3 ((sI S30 v20 5 v31).1 405 4)).1 97 4)) xc_5 dX6_each_79 fl_X6_188 (by decide) (by decide) (cel_97 _ _ _) rfl ?_
  refine es_l (pc' := 84) (ls' := [(2, .int ((sI (sI S30 v20 5 v31) v20 3 ((sI S30 v20 5 v31).1 405 4)).1 97 4)), (1, .ref (w.2.1 + v20)), (0, .ref (w.2.1 + 404))]) (st' := [.ref (w.2.1 + 404)]) (fun _ _ k => e_istore_n (ls' := [(2, .int ((sI (sI S30 v20 5 v31) v20 3 ((sI S30 v20 5 v31).1 405 4)).1 97 4)), (1, .ref (w.2.1 + v20)), (0, .ref (w.2.1 + 404))]) dX6_each_82 (by decide) rfl (e_aload_n dX6_each_83 2 rfl k)) ?_
  refine es_get (v := .ref (w.2.1 + 97)) xc_6 dX6_each_84 fl_X6_19 (by decide) (by decide) (cel_404 _ _ _) rfl ?_
  refine es_l (pc' := 89) (ls' := [(2, .int ((sI (sI S30 v20 5 v31) v20 3 ((sI S30 v20 5 v31).1 405 4)).1 97 4)), (1, .ref (w.2.1 + v20)), (0, .ref (w.2.1 + 404))]) (st' := [.int 48, .ref (w.2.1 + 97)]) (fun _ _ k => e_bipush (v := 48) dX6_each_87 (by decide) k) ?_
  refine es_callVR (as := [.int 48]) (rest := []) hf xc_5 dX6_each_89 cs_X6_each_X5_addStep ml_X6_91 im_X5_addStep se_X5_addStep rfl rfl (Nat.le_of_ble_eq_true rfl) (Nat.le_of_ble_eq_true rfl) (by decide) rfl (cel_97 _ _ _) (fun _ e => t_X5_addStep N 48 (sI (sI S30 v20 5 v31) v20 3 ((sI S30 v20 5 v31).1 405 4)) _ e) (by decide) (fun v33 S32 hf => ?_)
  refine es_l (pc' := 95) (ls' := [(3, .ref (w.2.1 + v33)), (2, .int ((sI (sI S30 v20 5 v31) v20 3 ((sI S30 v20 5 v31).1 405 4)).1 97 4)), (1, .ref (w.2.1 + v20)), (0, .ref (w.2.1 + 404))]) (st' := [.ref (w.2.1 + v20), .ref (w.2.1 + v33)]) (fun _ _ k => e_astore_n (ls' := [(3, .ref (w.2.1 + v33)), (2, .int ((sI (sI S30 v20 5 v31) v20 3 ((sI S30 v20 5 v31).1 405 4)).1 97 4)), (1, .ref (w.2.1 + v20)), (0, .ref (w.2.1 + 404))]) dX6_each_92 (by decide) rfl (e_aload_n dX6_each_93 0 rfl (e_aload_n dX6_each_94 2 rfl k))) ?_
  refine es_get (v := .int (S32.1 v20 1)) xc_8 dX6_each_95 fl_X6_139 (by decide) (xStep_lt g25) (cel_st g25 _ _ _) rfl ?_
  obtain ⟨g34, hf⟩ := xg hf
  refine es_put xc_8 dX6_each_98 fl_X6_139 (by decide) (by decide) (xStep_lt g34) (cel_st g34 _ _ _) rfl rfl rfl (by rw [cel_st g34]; rfl) ?_
  refine es_l (pc' := 103) (ls' := [(3, .ref (w.2.1 + v33)), (2, .int ((sI (sI S30 v20 5 v31) v20 3 ((sI S30 v20 5 v31).1 405 4)).1 97 4)), (1, .ref (w.2.1 + v20)), (0, .ref (w.2.1 + 404))]) (st' := [.ref (w.2.1 + v20), .ref (w.2.1 + v33)]) (fun _ _ k => e_aload_n dX6_each_101 0 rfl (e_aload_n dX6_each_102 2 rfl k)) ?_
  refine es_get (v := .int ((sI S32 v33 1 (S32.1 v20 1)).1 v20 3)) xc_8 dX6_each_103 fl_X6_185 (by decide) (xStep_lt g25) (cel_st g25 _ _ _) rfl ?_
  refine es_put xc_8 dX6_each_106 fl_X6_185 (by decide) (by decide) (xStep_lt g34) (cel_st g34 _ _ _) rfl rfl rfl (by rw [cel_st g34]; rfl) ?_
  refine es_l (pc' := 110) (ls' := [(3, .ref (w.2.1 + v33)), (2, .int ((sI (sI S30 v20 5 v31) v20 3 ((sI S30 v20 5 v31).1 405 4)).1 97 4)), (1, .ref (w.2.1 + v20)), (0, .ref (w.2.1 + 404))]) (st' := [.ref (w.2.1 + 404)]) (fun _ _ k => e_aload_n dX6_each_109 3 rfl k) ?_
  refine es_get (v := .ref (w.2.1 + 405)) xc_6 dX6_each_110 fl_X6_28 (by decide) (by decide) (cel_404 _ _ _) rfl ?_
  refine es_l (pc' := 114) (ls' := [(3, .ref (w.2.1 + v33)), (2, .int ((sI (sI S30 v20 5 v31) v20 3 ((sI S30 v20 5 v31).1 405 4)).1 97 4)), (1, .ref (w.2.1 + v20)), (0, .ref (w.2.1 + 404))]) (st' := [.int ((sI (sI S30 v20 5 v31) v20 3 ((sI S30 v20 5 v31).1 405 4)).1 97 4), .ref (w.2.1 + 405)]) (fun _ _ k => e_iload_n dX6_each_113 1 rfl k) ?_
  refine es_callVV (as := [.int ((sI (sI S30 v20 5 v31) v20 3 ((sI S30 v20 5 v31).1 405 4)).1 97 4)]) (rest := []) hf xc_7 dX6_each_114 cs_X6_each_X7_openBlock ml_X6_191 im_X7_openBlock se_X7_openBlock rfl rfl (Nat.le_of_ble_eq_true rfl) (Nat.le_of_ble_eq_true rfl) (by decide) rfl (cel_405 _ _ _) (fun _ e => t_X7_openBlock N ((sI (sI S30 v20 5 v31) v20 3 ((sI S30 v20 5 v31).1 405 4)).1 97 4) (sI (sI S32 v33 1 (S32.1 v20 1)) v33 3 ((sI S32 v33 1 (S32.1 v20 1)).1 v20 3)) _ e) (by decide) (fun S35 hf => ?_)
  exact es_return dX6_each_117 rfl hf
def f_X6_conditional (N : Nat)  (S : xS) : Option xr :=
  xcI (f_X9_sort N S) (fun v13 S12 =>
  xcR (f_X5_addStep N v13 S12) (fun v15 S14 =>
  xcV (f_X9_pass N S14) (fun S16 =>
  xcI (f_X1_read N 0 S16) (fun v19 S18 =>
  if xStep v15 then
  xcV (f_X7_openBlock N (S.1 97 4) (sI S18 v15 6 v19)) (fun S21 =>
  some (.inl none, S21)
  )
  else none
  )
  )
  )
  )
set_option maxRecDepth 100000 in
set_option maxHeartbeats 4000000 in
theorem t_X6_conditional {l : Launch} {w : xW} {g : Nat → xE} (N : Nat)  (S : xS) (r : xr) (hf : f_X6_conditional N  S = some r) : ES l w g M_X6_conditional 0 (lv_args 0 [.ref (w.2.1 + 404)]) [] S r := by
  show ES l w g M_X6_conditional 0 [(0, .ref (w.2.1 + 404))] [] S r
  unfold f_X6_conditional at hf
  refine es_l (pc' := 1) (ls' := [(0, .ref (w.2.1 + 404))]) (st' := [.ref (w.2.1 + 404)]) (fun _ _ k => e_aload_n dX6_conditional_0 0 rfl k) ?_
  refine es_get (v := .ref (w.2.1 + 97)) xc_6 dX6_conditional_1 fl_X6_19 (by decide) (by decide) (cel_404 _ _ _) rfl ?_
  refine es_get (v := .int (S.1 97 4)) xc_5 dX6_conditional_4 fl_X6_188 (by decide) (by decide) (cel_97 _ _ _) rfl ?_
  refine es_l (pc' := 9) (ls' := [(1, .int (S.1 97 4)), (0, .ref (w.2.1 + 404))]) (st' := [.ref (w.2.1 + 404)]) (fun _ _ k => e_istore_n (ls' := [(1, .int (S.1 97 4)), (0, .ref (w.2.1 + 404))]) dX6_conditional_7 (by decide) rfl (e_aload_n dX6_conditional_8 1 rfl k)) ?_
  refine es_get (v := .ref (w.2.1 + 97)) xc_6 dX6_conditional_9 fl_X6_19 (by decide) (by decide) (cel_404 _ _ _) rfl ?_
  refine es_l (pc' := 13) (ls' := [(1, .int (S.1 97 4)), (0, .ref (w.2.1 + 404))]) (st' := [.ref (w.2.1 + 404), .ref (w.2.1 + 97)]) (fun _ _ k => e_aload_n dX6_conditional_12 1 rfl k) ?_
  refine es_get (v := .ref (w.2.1 + 1)) xc_6 dX6_conditional_13 fl_X6_9 (by decide) (by decide) (cel_404 _ _ _) rfl ?_
  refine es_callVI (as := []) (rest := [.ref (w.2.1 + 97)]) hf xc_9 dX6_conditional_16 cs_X6_conditional_X9_sort ml_X6_47 im_X9_sort se_X9_sort rfl rfl (Nat.le_of_ble_eq_true rfl) (Nat.le_of_ble_eq_true rfl) (by decide) rfl (cel_1 _ _ _) (fun _ e => t_X9_sort N  S _ e) (by decide) (fun v13 S12 hf => ?_)
  refine es_callVR (as := [.int v13]) (rest := []) hf xc_5 dX6_conditional_19 cs_X6_conditional_X5_addStep ml_X6_91 im_X5_addStep se_X5_addStep rfl rfl (Nat.le_of_ble_eq_true rfl) (Nat.le_of_ble_eq_true rfl) (by decide) rfl (cel_97 _ _ _) (fun _ e => t_X5_addStep N v13 S12 _ e) (by decide) (fun v15 S14 hf => ?_)
  refine es_l (pc' := 24) (ls' := [(2, .ref (w.2.1 + v15)), (1, .int (S.1 97 4)), (0, .ref (w.2.1 + 404))]) (st' := [.ref (w.2.1 + 404)]) (fun _ _ k => e_astore_n (ls' := [(2, .ref (w.2.1 + v15)), (1, .int (S.1 97 4)), (0, .ref (w.2.1 + 404))]) dX6_conditional_22 (by decide) rfl (e_aload_n dX6_conditional_23 2 rfl k)) ?_
  refine es_get (v := .ref (w.2.1 + 1)) xc_6 dX6_conditional_24 fl_X6_9 (by decide) (by decide) (cel_404 _ _ _) rfl ?_
  refine es_callVV (as := []) (rest := []) hf xc_9 dX6_conditional_27 cs_X6_conditional_X9_pass ml_X6_95 im_X9_pass se_X9_pass rfl rfl (Nat.le_of_ble_eq_true rfl) (Nat.le_of_ble_eq_true rfl) (by decide) rfl (cel_1 _ _ _) (fun _ e => t_X9_pass N  S14 _ e) (by decide) (fun S16 hf => ?_)
  refine es_l (pc' := 32) (ls' := [(2, .ref (w.2.1 + v15)), (1, .int (S.1 97 4)), (0, .ref (w.2.1 + 404))]) (st' := [.ref (w.2.1 + 404), .ref (w.2.1 + v15)]) (fun _ _ k => e_aload_n dX6_conditional_30 0 rfl (e_aload_n dX6_conditional_31 2 rfl k)) ?_
  refine es_get (v := .ref (w.2.1 + 407)) xc_6 dX6_conditional_32 fl_X6_37 (by decide) (by decide) (cel_404 _ _ _) rfl ?_
  refine es_l (pc' := 36) (ls' := [(2, .ref (w.2.1 + v15)), (1, .int (S.1 97 4)), (0, .ref (w.2.1 + 404))]) (st' := [.int 0, .ref (w.2.1 + 407), .ref (w.2.1 + v15)]) (fun _ _ k => e_iconst (v := 0) dX6_conditional_35 (by decide) k) ?_
  refine es_callVI (as := [.int 0]) (rest := [.ref (w.2.1 + v15)]) hf xc_1 dX6_conditional_36 cs_X6_conditional_X1_read ml_X6_154 im_X1_read se_X1_read rfl rfl (Nat.le_of_ble_eq_true rfl) (Nat.le_of_ble_eq_true rfl) (by decide) rfl (cel_407 _ _ _) (fun _ e => t_X1_read N 0 S16 _ e) (by decide) (fun v19 S18 hf => ?_)
  obtain ⟨g20, hf⟩ := xg hf
  refine es_put xc_8 dX6_conditional_39 fl_X6_174 (by decide) (by decide) (xStep_lt g20) (cel_st g20 _ _ _) rfl rfl rfl (by rw [cel_st g20]; rfl) ?_
  refine es_l (pc' := 43) (ls' := [(2, .ref (w.2.1 + v15)), (1, .int (S.1 97 4)), (0, .ref (w.2.1 + 404))]) (st' := [.ref (w.2.1 + 404)]) (fun _ _ k => e_aload_n dX6_conditional_42 2 rfl k) ?_
  refine es_get (v := .ref (w.2.1 + 405)) xc_6 dX6_conditional_43 fl_X6_28 (by decide) (by decide) (cel_404 _ _ _) rfl ?_
  refine es_l (pc' := 47) (ls' := [(2, .ref (w.2.1 + v15)), (1, .int (S.1 97 4)), (0, .ref (w.2.1 + 404))]) (st' := [.int (S.1 97 4), .ref (w.2.1 + 405)]) (fun _ _ k => e_iload_n dX6_conditional_46 1 rfl k) ?_
  refine es_callVV (as := [.int (S.1 97 4)]) (rest := []) hf xc_7 dX6_conditional_47 cs_X6_conditional_X7_openBlock ml_X6_191 im_X7_openBlock se_X7_openBlock rfl rfl (Nat.le_of_ble_eq_true rfl) (Nat.le_of_ble_eq_true rfl) (by decide) rfl (cel_405 _ _ _) (fun _ e => t_X7_openBlock N (S.1 97 4) (sI S18 v15 6 v19) _ e) (by decide) (fun S21 hf => ?_)
  exact es_return dX6_conditional_50 rfl hf
def f_X6_remove (N : Nat)  (S : xS) : Option xr :=
  xcR (f_X5_addStep N 13 S) (fun v13 S12 =>
  xcV (f_X9_pass N S12) (fun S14 =>
  xcI (f_X7_cursor N S14) (fun v17 S16 =>
  if xStep v13 then
  xcI (f_X7_takeKind N (sI S16 v13 3 v17)) (fun v20 S19 =>
  xcV (f_X9_take N 34 (sI S19 v13 1 v20)) (fun S21 =>
  some (.inl none, S21)
  )
  )
  else none
  )
  )
  )
set_option maxRecDepth 100000 in
set_option maxHeartbeats 4000000 in
theorem t_X6_remove {l : Launch} {w : xW} {g : Nat → xE} (N : Nat)  (S : xS) (r : xr) (hf : f_X6_remove N  S = some r) : ES l w g M_X6_remove 0 (lv_args 0 [.ref (w.2.1 + 404)]) [] S r := by
  show ES l w g M_X6_remove 0 [(0, .ref (w.2.1 + 404))] [] S r
  unfold f_X6_remove at hf
  refine es_l (pc' := 1) (ls' := [(0, .ref (w.2.1 + 404))]) (st' := [.ref (w.2.1 + 404)]) (fun _ _ k => e_aload_n dX6_remove_0 0 rfl k) ?_
  refine es_get (v := .ref (w.2.1 + 97)) xc_6 dX6_remove_1 fl_X6_19 (by decide) (by decide) (cel_404 _ _ _) rfl ?_
  refine es_l (pc' := 6) (ls' := [(0, .ref (w.2.1 + 404))]) (st' := [.int 13, .ref (w.2.1 + 97)]) (fun _ _ k => e_bipush (v := 13) dX6_remove_4 (by decide) k) ?_
  refine es_callVR (as := [.int 13]) (rest := []) hf xc_5 dX6_remove_6 cs_X6_remove_X5_addStep ml_X6_91 im_X5_addStep se_X5_addStep rfl rfl (Nat.le_of_ble_eq_true rfl) (Nat.le_of_ble_eq_true rfl) (by decide) rfl (cel_97 _ _ _) (fun _ e => t_X5_addStep N 13 S _ e) (by decide) (fun v13 S12 hf => ?_)
  refine es_l (pc' := 11) (ls' := [(1, .ref (w.2.1 + v13)), (0, .ref (w.2.1 + 404))]) (st' := [.ref (w.2.1 + 404)]) (fun _ _ k => e_astore_n (ls' := [(1, .ref (w.2.1 + v13)), (0, .ref (w.2.1 + 404))]) dX6_remove_9 (by decide) rfl (e_aload_n dX6_remove_10 1 rfl k)) ?_
  refine es_get (v := .ref (w.2.1 + 1)) xc_6 dX6_remove_11 fl_X6_9 (by decide) (by decide) (cel_404 _ _ _) rfl ?_
  refine es_callVV (as := []) (rest := []) hf xc_9 dX6_remove_14 cs_X6_remove_X9_pass ml_X6_95 im_X9_pass se_X9_pass rfl rfl (Nat.le_of_ble_eq_true rfl) (Nat.le_of_ble_eq_true rfl) (by decide) rfl (cel_1 _ _ _) (fun _ e => t_X9_pass N  S12 _ e) (by decide) (fun S14 hf => ?_)
  refine es_l (pc' := 19) (ls' := [(1, .ref (w.2.1 + v13)), (0, .ref (w.2.1 + 404))]) (st' := [.ref (w.2.1 + 404), .ref (w.2.1 + v13)]) (fun _ _ k => e_aload_n dX6_remove_17 0 rfl (e_aload_n dX6_remove_18 1 rfl k)) ?_
  refine es_get (v := .ref (w.2.1 + 405)) xc_6 dX6_remove_19 fl_X6_28 (by decide) (by decide) (cel_404 _ _ _) rfl ?_
  refine es_callVI (as := []) (rest := [.ref (w.2.1 + v13)]) hf xc_7 dX6_remove_22 cs_X6_remove_X7_cursor ml_X6_206 im_X7_cursor se_X7_cursor rfl rfl (Nat.le_of_ble_eq_true rfl) (Nat.le_of_ble_eq_true rfl) (by decide) rfl (cel_405 _ _ _) (fun _ e => t_X7_cursor N  S14 _ e) (by decide) (fun v17 S16 hf => ?_)
  obtain ⟨g18, hf⟩ := xg hf
  refine es_put xc_8 dX6_remove_25 fl_X6_185 (by decide) (by decide) (xStep_lt g18) (cel_st g18 _ _ _) rfl rfl rfl (by rw [cel_st g18]; rfl) ?_
  refine es_l (pc' := 30) (ls' := [(1, .ref (w.2.1 + v13)), (0, .ref (w.2.1 + 404))]) (st' := [.ref (w.2.1 + 404), .ref (w.2.1 + v13)]) (fun _ _ k => e_aload_n dX6_remove_28 0 rfl (e_aload_n dX6_remove_29 1 rfl k)) ?_
  refine es_get (v := .ref (w.2.1 + 405)) xc_6 dX6_remove_30 fl_X6_28 (by decide) (by decide) (cel_404 _ _ _) rfl ?_
  refine es_callVI (as := []) (rest := [.ref (w.2.1 + v13)]) hf xc_7 dX6_remove_33 cs_X6_remove_X7_takeKind ml_X6_136 im_X7_takeKind se_X7_takeKind rfl rfl (Nat.le_of_ble_eq_true rfl) (Nat.le_of_ble_eq_true rfl) (by decide) rfl (cel_405 _ _ _) (fun _ e => t_X7_takeKind N  (sI S16 v13 3 v17) _ e) (by decide) (fun v20 S19 hf => ?_)
  refine es_put xc_8 dX6_remove_36 fl_X6_139 (by decide) (by decide) (xStep_lt g18) (cel_st g18 _ _ _) rfl rfl rfl (by rw [cel_st g18]; rfl) ?_
  refine es_l (pc' := 40) (ls' := [(1, .ref (w.2.1 + v13)), (0, .ref (w.2.1 + 404))]) (st' := [.ref (w.2.1 + 404)]) (fun _ _ k => e_aload_n dX6_remove_39 1 rfl k) ?_
  refine es_get (v := .ref (w.2.1 + 1)) xc_6 dX6_remove_40 fl_X6_9 (by decide) (by decide) (cel_404 _ _ _) rfl ?_
  refine es_l (pc' := 45) (ls' := [(1, .ref (w.2.1 + v13)), (0, .ref (w.2.1 + 404))]) (st' := [.int 34, .ref (w.2.1 + 1)]) (fun _ _ k => e_bipush (v := 34) dX6_remove_43 (by decide) k) ?_
  refine es_callVV (as := [.int 34]) (rest := []) hf xc_9 dX6_remove_45 cs_X6_remove_X9_take ml_X6_122 im_X9_take se_X9_take rfl rfl (Nat.le_of_ble_eq_true rfl) (Nat.le_of_ble_eq_true rfl) (by decide) rfl (cel_1 _ _ _) (fun _ e => t_X9_take N 34 (sI S19 v13 1 v20) _ e) (by decide) (fun S21 hf => ?_)
  exact es_return dX6_remove_48 rfl hf
def f_X7_closeBlock (N : Nat)  (S : xS) : Option xr :=
  if (S.1 405 4) = 0 then
    some (.inr "java/lang/IllegalArgumentException", sE S)
  else
    xcV (f_X7_leave N 32 S) (fun S6 =>
    if xin ((S6.1 405 4) - 1) 10 then
    some (.inl (some (.inl (S6.1 406 (((S6.1 405 4) - 1).toNatClampNeg)))), sI S6 405 4 ((S6.1 405 4) - 1))
    else none
    )
set_option maxRecDepth 100000 in
set_option maxHeartbeats 4000000 in
theorem t_X7_closeBlock {l : Launch} {w : xW} {g : Nat → xE} (N : Nat)  (S : xS) (r : xr) (hf : f_X7_closeBlock N  S = some r) : ES l w g M_X7_closeBlock 0 (lv_args 0 [.ref (w.2.1 + 405)]) [] S r := by
  show ES l w g M_X7_closeBlock 0 [(0, .ref (w.2.1 + 405))] [] S r
  unfold f_X7_closeBlock at hf
  refine es_l (pc' := 1) (ls' := [(0, .ref (w.2.1 + 405))]) (st' := [.ref (w.2.1 + 405)]) (fun _ _ k => e_aload_n dX7_closeBlock_0 0 rfl k) ?_
  refine es_get (v := .int (S.1 405 4)) xc_7 dX7_closeBlock_1 fl_X7_27 (by decide) (by decide) (cel_405 _ _ _) rfl ?_
  refine es_br (c := (S.1 405 4) = 0) (tgt := 7) (pf := 15) (st' := []) (fun _ _ a b => e_if_ne dX7_closeBlock_4 rfl b a) (fun c5 => ?_) (fun c5 => ?_)
  · rw [if_pos c5] at hf
    exact es_throw (names := ["java/lang/RuntimeException", "java/lang/Exception"]) (by decide +kernel) (by decide +kernel) th_k_X7_40 th_i_IllegalArgumentException th_a_X7_40 th_g_X7_40 dX7_closeBlock_7 dX7_closeBlock_10 dX7_closeBlock_11 dX7_closeBlock_14 (by decide) (by decide) (by decide) hf
  · rw [if_neg c5] at hf
    refine es_l (pc' := 18) (ls' := [(0, .ref (w.2.1 + 405))]) (st' := [.int 32, .ref (w.2.1 + 405)]) (fun _ _ k => e_aload_n dX7_closeBlock_15 0 rfl (e_bipush (v := 32) dX7_closeBlock_16 (by decide) k)) ?_
    refine es_callVV (as := [.int 32]) (rest := []) hf xc_7 dX7_closeBlock_18 cs_X7_closeBlock_X7_leave ml_X7_53 im_X7_leave se_X7_leave rfl rfl (Nat.le_of_ble_eq_true rfl) (Nat.le_of_ble_eq_true rfl) (by decide) rfl (cel_405 _ _ _) (fun _ e => t_X7_leave N 32 S _ e) (by decide) (fun S6 hf => ?_)
    refine es_l (pc' := 23) (ls' := [(0, .ref (w.2.1 + 405))]) (st' := [.ref (w.2.1 + 405), .ref (w.2.1 + 405)]) (fun _ _ k => e_aload_n dX7_closeBlock_21 0 rfl (e_dup dX7_closeBlock_22 rfl k)) ?_
    refine es_get (v := .int (S6.1 405 4)) xc_7 dX7_closeBlock_23 fl_X7_27 (by decide) (by decide) (cel_405 _ _ _) rfl ?_
    refine es_l (pc' := 28) (ls' := [(0, .ref (w.2.1 + 405))]) (st' := [.int ((S6.1 405 4) - 1), .ref (w.2.1 + 405)]) (fun _ _ k => e_iconst (v := 1) dX7_closeBlock_26 (by decide) (e_isub dX7_closeBlock_27 k)) ?_
    refine es_put xc_7 dX7_closeBlock_28 fl_X7_27 (by decide) (by decide) (by decide) (cel_405 _ _ _) rfl rfl rfl rfl ?_
    refine es_l (pc' := 32) (ls' := [(0, .ref (w.2.1 + 405))]) (st' := [.ref (w.2.1 + 405)]) (fun _ _ k => e_aload_n dX7_closeBlock_31 0 rfl k) ?_
    refine es_get (v := .ref (w.2.1 + 406)) xc_7 dX7_closeBlock_32 fl_X7_9 (by decide) (by decide) (cel_405 _ _ _) rfl ?_
    refine es_l (pc' := 36) (ls' := [(0, .ref (w.2.1 + 405))]) (st' := [.ref (w.2.1 + 405), .ref (w.2.1 + 406)]) (fun _ _ k => e_aload_n dX7_closeBlock_35 0 rfl k) ?_
    refine es_get (v := .int ((S6.1 405 4) - 1)) xc_7 dX7_closeBlock_36 fl_X7_27 (by decide) (by decide) (cel_405 _ _ _) rfl ?_
    obtain ⟨g8, hf⟩ := xg hf
    refine es_iald (v := .int (S6.1 406 (((S6.1 405 4) - 1).toNatClampNeg))) dX7_closeBlock_39 (by decide) (cel_406 _ _ _) g8 rfl ?_
    exact es_ireturn (ty := .int) dX7_closeBlock_40 rfl rfl hf
def f_X6_closeBlock_99 (N : Nat)  (a2 : Nat) (S : xS) : Option xr :=
  if xStep a2 then
  some (.inl none, sI S a2 9 (S.1 97 4))
  else none
set_option maxRecDepth 100000 in
set_option maxHeartbeats 4000000 in
theorem t_X6_closeBlock_99 {l : Launch} {w : xW} {g : Nat → xE} (N : Nat)   (a2 : Nat) (S : xS) (r : xr) (hf : f_X6_closeBlock_99 N  a2 S = some r) : ES l w g M_X6_closeBlock 99 [(0, .ref (w.2.1 + 404)), (2, .ref (w.2.1 + a2))] [] S r := by
  unfold f_X6_closeBlock_99 at hf
  refine es_l (pc' := 101) (ls' := [(0, .ref (w.2.1 + 404)), (2, .ref (w.2.1 + a2))]) (st' := [.ref (w.2.1 + 404), .ref (w.2.1 + a2)]) (fun _ _ k => e_aload_n dX6_closeBlock_99 1 rfl (e_aload_n dX6_closeBlock_100 0 rfl k)) ?_
  refine es_get (v := .ref (w.2.1 + 97)) xc_6 dX6_closeBlock_101 fl_X6_19 (by decide) (by decide) (cel_404 _ _ _) rfl ?_
  refine es_get (v := .int (S.1 97 4)) xc_5 dX6_closeBlock_104 fl_X6_188 (by decide) (by decide) (cel_97 _ _ _) rfl ?_
  obtain ⟨g35, hf⟩ := xg hf
  refine es_put xc_8 dX6_closeBlock_107 fl_X6_203 (by decide) (by decide) (xStep_lt g35) (cel_st g35 _ _ _) rfl rfl rfl (by rw [cel_st g35]; rfl) ?_
  exact es_return dX6_closeBlock_110 rfl hf
def f_X6_closeBlock_44 (N : Nat)  (x1 : Int32) (a2 : Nat) (S : xS) : Option xr :=
  xcR (f_X5_addStep N 49 S) (fun v37 S36 =>
  if xStep v37 then
  f_X6_closeBlock_99 N a2 (sI S36 v37 9 x1)
  else none
  )
set_option maxRecDepth 100000 in
set_option maxHeartbeats 4000000 in
theorem t_X6_closeBlock_44 {l : Launch} {w : xW} {g : Nat → xE} (N : Nat)   (x1 : Int32) (a2 : Nat) (S : xS) (r : xr) (hf : f_X6_closeBlock_44 N  x1 a2 S = some r) : ES l w g M_X6_closeBlock 44 [(0, .ref (w.2.1 + 404)), (1, .int x1), (2, .ref (w.2.1 + a2))] [] S r := by
  unfold f_X6_closeBlock_44 at hf
  refine es_l (pc' := 45) (ls' := [(0, .ref (w.2.1 + 404)), (1, .int x1), (2, .ref (w.2.1 + a2))]) (st' := [.ref (w.2.1 + 404)]) (fun _ _ k => e_aload_n dX6_closeBlock_44 0 rfl k) ?_
  refine es_get (v := .ref (w.2.1 + 97)) xc_6 dX6_closeBlock_45 fl_X6_19 (by decide) (by decide) (cel_404 _ _ _) rfl ?_
  refine es_l (pc' := 50) (ls' := [(0, .ref (w.2.1 + 404)), (1, .int x1), (2, .ref (w.2.1 + a2))]) (st' := [.int 49, .ref (w.2.1 + 97)]) (fun _ _ k => e_bipush (v := 49) dX6_closeBlock_48 (by decide) k) ?_
  refine es_callVR (as := [.int 49]) (rest := []) hf xc_5 dX6_closeBlock_50 cs_X6_closeBlock_X5_addStep ml_X6_91 im_X5_addStep se_X5_addStep rfl rfl (Nat.le_of_ble_eq_true rfl) (Nat.le_of_ble_eq_true rfl) (by decide) rfl (cel_97 _ _ _) (fun _ e => t_X5_addStep N 49 S _ e) (by decide) (fun v37 S36 hf => ?_)
  refine es_l (pc' := 54) (ls' := [(0, .ref (w.2.1 + 404)), (1, .int x1), (2, .ref (w.2.1 + a2))]) (st' := [.int x1, .ref (w.2.1 + v37)]) (fun _ _ k => e_iload_n dX6_closeBlock_53 1 rfl k) ?_
  obtain ⟨g38, hf⟩ := xg hf
  refine es_put xc_8 dX6_closeBlock_54 fl_X6_203 (by decide) (by decide) (xStep_lt g38) (cel_st g38 _ _ _) rfl rfl rfl (by rw [cel_st g38]; rfl) ?_
  refine es_l (pc' := 99) (ls' := [(0, .ref (w.2.1 + 404)), (1, .int x1), (2, .ref (w.2.1 + a2))]) (st' := []) (fun _ _ k => e_goto (tgt := 99) dX6_closeBlock_57 rfl k) ?_
  refine es_sub [0, 2] rfl ?_
  exact t_X6_closeBlock_99 N a2 (sI S36 v37 9 x1) r hf
def f_X6_closeBlock (N : Nat)  (S : xS) : Option xr :=
  xcI (f_X7_closeBlock N S) (fun v40 S39 =>
  if xin v40 151 then
  if (S39.1 (102 + 2 * v40.toNatClampNeg) 0) = 48 then
    f_X6_closeBlock_44 N v40 (102 + 2 * v40.toNatClampNeg) S39
  else
    if (S39.1 (102 + 2 * v40.toNatClampNeg) 0) = 12 then
      f_X6_closeBlock_44 N v40 (102 + 2 * v40.toNatClampNeg) S39
    else
      if (S39.1 (102 + 2 * v40.toNatClampNeg) 0) = 10 then
        xcI (f_X9_passed N 11 S39) (fun v46 S45 =>
        if v46 = 0 then
          f_X6_closeBlock_99 N (102 + 2 * v40.toNatClampNeg) S45
        else
          xcR (f_X5_addStep N 49 S45) (fun v49 S48 =>
          xcV (f_X7_openBlock N (S39.1 97 4) S48) (fun S50 =>
          f_X6_closeBlock_99 N (102 + 2 * v40.toNatClampNeg) S50
          )
          )
        )
      else
        f_X6_closeBlock_99 N (102 + 2 * v40.toNatClampNeg) S39
  else none
  )
set_option maxRecDepth 100000 in
set_option maxHeartbeats 4000000 in
theorem t_X6_closeBlock {l : Launch} {w : xW} {g : Nat → xE} (N : Nat)  (S : xS) (r : xr) (hf : f_X6_closeBlock N  S = some r) : ES l w g M_X6_closeBlock 0 (lv_args 0 [.ref (w.2.1 + 404)]) [] S r := by
  show ES l w g M_X6_closeBlock 0 [(0, .ref (w.2.1 + 404))] [] S r
  unfold f_X6_closeBlock at hf
  refine es_l (pc' := 1) (ls' := [(0, .ref (w.2.1 + 404))]) (st' := [.ref (w.2.1 + 404)]) (fun _ _ k => e_aload_n dX6_closeBlock_0 0 rfl k) ?_
  refine es_get (v := .ref (w.2.1 + 405)) xc_6 dX6_closeBlock_1 fl_X6_28 (by decide) (by decide) (cel_404 _ _ _) rfl ?_
  refine es_callVI (as := []) (rest := []) hf xc_7 dX6_closeBlock_4 cs_X6_closeBlock_X7_closeBlock ml_X6_194 im_X7_closeBlock se_X7_closeBlock rfl rfl (Nat.le_of_ble_eq_true rfl) (Nat.le_of_ble_eq_true rfl) (by decide) rfl (cel_405 _ _ _) (fun _ e => t_X7_closeBlock N  S _ e) (by decide) (fun v40 S39 hf => ?_)
  refine es_l (pc' := 9) (ls' := [(1, .int v40), (0, .ref (w.2.1 + 404))]) (st' := [.ref (w.2.1 + 404)]) (fun _ _ k => e_istore_n (ls' := [(1, .int v40), (0, .ref (w.2.1 + 404))]) dX6_closeBlock_7 (by decide) rfl (e_aload_n dX6_closeBlock_8 1 rfl k)) ?_
  refine es_get (v := .ref (w.2.1 + 97)) xc_6 dX6_closeBlock_9 fl_X6_19 (by decide) (by decide) (cel_404 _ _ _) rfl ?_
  refine es_get (v := .ref (w.2.1 + 98)) xc_5 dX6_closeBlock_12 fl_X6_196 (by decide) (by decide) (cel_97 _ _ _) rfl ?_
  refine es_l (pc' := 16) (ls' := [(1, .int v40), (0, .ref (w.2.1 + 404))]) (st' := [.int v40, .ref (w.2.1 + 98)]) (fun _ _ k => e_iload_n dX6_closeBlock_15 0 rfl k) ?_
  obtain ⟨g41, hf⟩ := xg hf
  refine es_aald (v := .ref (w.2.1 + (102 + 2 * v40.toNatClampNeg))) rfl dX6_closeBlock_16 (by decide) (cel_98 _ _ _) g41 rfl ?_
  refine es_l (pc' := 19) (ls' := [(2, .ref (w.2.1 + (102 + 2 * v40.toNatClampNeg))), (1, .int v40), (0, .ref (w.2.1 + 404))]) (st' := [.ref (w.2.1 + 404)]) (fun _ _ k => e_astore_n (ls' := [(2, .ref (w.2.1 + (102 + 2 * v40.toNatClampNeg))), (1, .int v40), (0, .ref (w.2.1 + 404))]) dX6_closeBlock_17 (by decide) rfl (e_aload_n dX6_closeBlock_18 2 rfl k)) ?_
  refine es_get (v := .ref (w.2.1 + 97)) xc_6 dX6_closeBlock_19 fl_X6_19 (by decide) (by decide) (cel_404 _ _ _) rfl ?_
  refine es_get (v := .int (S39.1 97 4)) xc_5 dX6_closeBlock_22 fl_X6_188 (by decide) (by decide) (cel_97 _ _ _) rfl ?_
  refine es_l (pc' := 27) (ls' := [(3, .int (S39.1 97 4)), (2, .ref (w.2.1 + (102 + 2 * v40.toNatClampNeg))), (1, .int v40), (0, .ref (w.2.1 + 404))]) (st' := [.ref (w.2.1 + (102 + 2 * v40.toNatClampNeg))]) (fun _ _ k => e_istore_n (ls' := [(3, .int (S39.1 97 4)), (2, .ref (w.2.1 + (102 + 2 * v40.toNatClampNeg))), (1, .int v40), (0, .ref (w.2.1 + 404))]) dX6_closeBlock_25 (by decide) rfl (e_aload_n dX6_closeBlock_26 1 rfl k)) ?_
  refine es_get (v := .int (S39.1 (102 + 2 * v40.toNatClampNeg) 0)) xc_8 dX6_closeBlock_27 fl_X6_200 (by decide) (xStep_lt (xStep_at g41)) (cel_st (xStep_at g41) _ _ _) rfl ?_
  refine es_l (pc' := 32) (ls' := [(3, .int (S39.1 97 4)), (2, .ref (w.2.1 + (102 + 2 * v40.toNatClampNeg))), (1, .int v40), (0, .ref (w.2.1 + 404))]) (st' := [.int 48, .int (S39.1 (102 + 2 * v40.toNatClampNeg) 0)]) (fun _ _ k => e_bipush (v := 48) dX6_closeBlock_30 (by decide) k) ?_
  refine es_br (c := (S39.1 (102 + 2 * v40.toNatClampNeg) 0) = 48) (tgt := 44) (pf := 35) (st' := []) (fun _ _ a b => e_icmp_eq dX6_closeBlock_32 rfl a b) (fun c42 => ?_) (fun c42 => ?_)
  · rw [if_pos c42] at hf
    refine es_sub [3, 2, 1] rfl ?_
    exact t_X6_closeBlock_44 N v40 (102 + 2 * v40.toNatClampNeg) S39 r hf
  · rw [if_neg c42] at hf
    refine es_l (pc' := 36) (ls' := [(3, .int (S39.1 97 4)), (2, .ref (w.2.1 + (102 + 2 * v40.toNatClampNeg))), (1, .int v40), (0, .ref (w.2.1 + 404))]) (st' := [.ref (w.2.1 + (102 + 2 * v40.toNatClampNeg))]) (fun _ _ k => e_aload_n dX6_closeBlock_35 1 rfl k) ?_
    refine es_get (v := .int (S39.1 (102 + 2 * v40.toNatClampNeg) 0)) xc_8 dX6_closeBlock_36 fl_X6_200 (by decide) (xStep_lt (xStep_at g41)) (cel_st (xStep_at g41) _ _ _) rfl ?_
    refine es_l (pc' := 41) (ls' := [(3, .int (S39.1 97 4)), (2, .ref (w.2.1 + (102 + 2 * v40.toNatClampNeg))), (1, .int v40), (0, .ref (w.2.1 + 404))]) (st' := [.int 12, .int (S39.1 (102 + 2 * v40.toNatClampNeg) 0)]) (fun _ _ k => e_bipush (v := 12) dX6_closeBlock_39 (by decide) k) ?_
    refine es_br (c := (S39.1 (102 + 2 * v40.toNatClampNeg) 0) = 12) (tgt := 44) (pf := 60) (st' := []) (fun _ _ a b => e_icmp_ne dX6_closeBlock_41 rfl b a) (fun c43 => ?_) (fun c43 => ?_)
    · rw [if_pos c43] at hf
      refine es_sub [3, 2, 1] rfl ?_
      exact t_X6_closeBlock_44 N v40 (102 + 2 * v40.toNatClampNeg) S39 r hf
    · rw [if_neg c43] at hf
      refine es_l (pc' := 61) (ls' := [(3, .int (S39.1 97 4)), (2, .ref (w.2.1 + (102 + 2 * v40.toNatClampNeg))), (1, .int v40), (0, .ref (w.2.1 + 404))]) (st' := [.ref (w.2.1 + (102 + 2 * v40.toNatClampNeg))]) (fun _ _ k => e_aload_n dX6_closeBlock_60 1 rfl k) ?_
      refine es_get (v := .int (S39.1 (102 + 2 * v40.toNatClampNeg) 0)) xc_8 dX6_closeBlock_61 fl_X6_200 (by decide) (xStep_lt (xStep_at g41)) (cel_st (xStep_at g41) _ _ _) rfl ?_
      refine es_l (pc' := 66) (ls' := [(3, .int (S39.1 97 4)), (2, .ref (w.2.1 + (102 + 2 * v40.toNatClampNeg))), (1, .int v40), (0, .ref (w.2.1 + 404))]) (st' := [.int 10, .int (S39.1 (102 + 2 * v40.toNatClampNeg) 0)]) (fun _ _ k => e_bipush (v := 10) dX6_closeBlock_64 (by decide) k) ?_
      refine es_br (c := (S39.1 (102 + 2 * v40.toNatClampNeg) 0) = 10) (tgt := 69) (pf := 99) (st' := []) (fun _ _ a b => e_icmp_ne dX6_closeBlock_66 rfl b a) (fun c44 => ?_) (fun c44 => ?_)
      · rw [if_pos c44] at hf
        refine es_l (pc' := 70) (ls' := [(3, .int (S39.1 97 4)), (2, .ref (w.2.1 + (102 + 2 * v40.toNatClampNeg))), (1, .int v40), (0, .ref (w.2.1 + 404))]) (st' := [.ref (w.2.1 + 404)]) (fun _ _ k => e_aload_n dX6_closeBlock_69 3 rfl k) ?_
        refine es_get (v := .ref (w.2.1 + 1)) xc_6 dX6_closeBlock_70 fl_X6_9 (by decide) (by decide) (cel_404 _ _ _) rfl ?_
        refine es_l (pc' := 75) (ls' := [(3, .int (S39.1 97 4)), (2, .ref (w.2.1 + (102 + 2 * v40.toNatClampNeg))), (1, .int v40), (0, .ref (w.2.1 + 404))]) (st' := [.int 11, .ref (w.2.1 + 1)]) (fun _ _ k => e_bipush (v := 11) dX6_closeBlock_73 (by decide) k) ?_
        refine es_callVI (as := [.int 11]) (rest := []) hf xc_9 dX6_closeBlock_75 cs_X6_closeBlock_X9_passed ml_X6_114 im_X9_passed se_X9_passed rfl rfl (Nat.le_of_ble_eq_true rfl) (Nat.le_of_ble_eq_true rfl) (by decide) rfl (cel_1 _ _ _) (fun _ e => t_X9_passed N 11 S39 _ e) (by decide) (fun v46 S45 hf => ?_)
        refine es_br (c := v46 = 0) (tgt := 99) (pf := 81) (st' := []) (fun _ _ a b => e_if_eq dX6_closeBlock_78 rfl a b) (fun c47 => ?_) (fun c47 => ?_)
        · rw [if_pos c47] at hf
          refine es_sub [3, 1] rfl ?_
          exact t_X6_closeBlock_99 N (102 + 2 * v40.toNatClampNeg) S45 r hf
        · rw [if_neg c47] at hf
          refine es_l (pc' := 82) (ls' := [(3, .int (S39.1 97 4)), (2, .ref (w.2.1 + (102 + 2 * v40.toNatClampNeg))), (1, .int v40), (0, .ref (w.2.1 + 404))]) (st' := [.ref (w.2.1 + 404)]) (fun _ _ k => e_aload_n dX6_closeBlock_81 3 rfl k) ?_
          refine es_get (v := .ref (w.2.1 + 97)) xc_6 dX6_closeBlock_82 fl_X6_19 (by decide) (by decide) (cel_404 _ _ _) rfl ?_
          refine es_l (pc' := 87) (ls' := [(3, .int (S39.1 97 4)), (2, .ref (w.2.1 + (102 + 2 * v40.toNatClampNeg))), (1, .int v40), (0, .ref (w.2.1 + 404))]) (st' := [.int 49, .ref (w.2.1 + 97)]) (fun _ _ k => e_bipush (v := 49) dX6_closeBlock_85 (by decide) k) ?_
          refine es_callVR (as := [.int 49]) (rest := []) hf xc_5 dX6_closeBlock_87 cs_X6_closeBlock_X5_addStep ml_X6_91 im_X5_addStep se_X5_addStep rfl rfl (Nat.le_of_ble_eq_true rfl) (Nat.le_of_ble_eq_true rfl) (by decide) rfl (cel_97 _ _ _) (fun _ e => t_X5_addStep N 49 S45 _ e) (by decide) (fun v49 S48 hf => ?_)
          refine es_l (pc' := 92) (ls' := [(3, .int (S39.1 97 4)), (2, .ref (w.2.1 + (102 + 2 * v40.toNatClampNeg))), (1, .int v40), (0, .ref (w.2.1 + 404))]) (st' := [.ref (w.2.1 + 404)]) (fun _ _ k => e_pop dX6_closeBlock_90 rfl (e_aload_n dX6_closeBlock_91 3 rfl k)) ?_
          refine es_get (v := .ref (w.2.1 + 405)) xc_6 dX6_closeBlock_92 fl_X6_28 (by decide) (by decide) (cel_404 _ _ _) rfl ?_
          refine es_l (pc' := 96) (ls' := [(3, .int (S39.1 97 4)), (2, .ref (w.2.1 + (102 + 2 * v40.toNatClampNeg))), (1, .int v40), (0, .ref (w.2.1 + 404))]) (st' := [.int (S39.1 97 4), .ref (w.2.1 + 405)]) (fun _ _ k => e_iload_n dX6_closeBlock_95 0 rfl k) ?_
          refine es_callVV (as := [.int (S39.1 97 4)]) (rest := []) hf xc_7 dX6_closeBlock_96 cs_X6_closeBlock_X7_openBlock ml_X6_191 im_X7_openBlock se_X7_openBlock rfl rfl (Nat.le_of_ble_eq_true rfl) (Nat.le_of_ble_eq_true rfl) (by decide) rfl (cel_405 _ _ _) (fun _ e => t_X7_openBlock N (S39.1 97 4) S48 _ e) (by decide) (fun S50 hf => ?_)
          refine es_sub [3, 1] rfl ?_
          exact t_X6_closeBlock_99 N (102 + 2 * v40.toNatClampNeg) S50 r hf
      · rw [if_neg c44] at hf
        refine es_sub [3, 1] rfl ?_
        exact t_X6_closeBlock_99 N (102 + 2 * v40.toNatClampNeg) S39 r hf
def f_X6_change (N : Nat)  (S : xS) : Option xr :=
  xcR (f_X5_addStep N 50 S) (fun v19 S18 =>
  xcI (f_X7_cursor N S18) (fun v21 S20 =>
  if xStep v19 then
  xcI (f_X7_takeKind N (sI S20 v19 3 v21)) (fun v24 S23 =>
  xcV (f_X9_take N 36 (sI S23 v19 1 v24)) (fun S25 =>
  xcI (f_X7_takeField N (S25.1 v19 1) S25) (fun v28 S27 =>
  xcV (f_X9_take N 21 (sI S27 v19 2 v28)) (fun S29 =>
  xcI (f_X1_read N 0 S29) (fun v32 S31 =>
  xcV (f_X9_take N 34 (sI S31 v19 6 v32)) (fun S33 =>
  some (.inl none, S33)
  )
  )
  )
  )
  )
  )
  else none
  )
  )
set_option maxRecDepth 100000 in
set_option maxHeartbeats 4000000 in
theorem t_X6_change {l : Launch} {w : xW} {g : Nat → xE} (N : Nat)  (S : xS) (r : xr) (hf : f_X6_change N  S = some r) : ES l w g M_X6_change 0 (lv_args 0 [.ref (w.2.1 + 404)]) [] S r := by
  show ES l w g M_X6_change 0 [(0, .ref (w.2.1 + 404))] [] S r
  unfold f_X6_change at hf
  refine es_l (pc' := 1) (ls' := [(0, .ref (w.2.1 + 404))]) (st' := [.ref (w.2.1 + 404)]) (fun _ _ k => e_aload_n dX6_change_0 0 rfl k) ?_
  refine es_get (v := .ref (w.2.1 + 97)) xc_6 dX6_change_1 fl_X6_19 (by decide) (by decide) (cel_404 _ _ _) rfl ?_
  refine es_l (pc' := 6) (ls' := [(0, .ref (w.2.1 + 404))]) (st' := [.int 50, .ref (w.2.1 + 97)]) (fun _ _ k => e_bipush (v := 50) dX6_change_4 (by decide) k) ?_
  refine es_callVR (as := [.int 50]) (rest := []) hf xc_5 dX6_change_6 cs_X6_change_X5_addStep ml_X6_91 im_X5_addStep se_X5_addStep rfl rfl (Nat.le_of_ble_eq_true rfl) (Nat.le_of_ble_eq_true rfl) (by decide) rfl (cel_97 _ _ _) (fun _ e => t_X5_addStep N 50 S _ e) (by decide) (fun v19 S18 hf => ?_)
  refine es_l (pc' := 12) (ls' := [(1, .ref (w.2.1 + v19)), (0, .ref (w.2.1 + 404))]) (st' := [.ref (w.2.1 + 404), .ref (w.2.1 + v19)]) (fun _ _ k => e_astore_n (ls' := [(1, .ref (w.2.1 + v19)), (0, .ref (w.2.1 + 404))]) dX6_change_9 (by decide) rfl (e_aload_n dX6_change_10 0 rfl (e_aload_n dX6_change_11 1 rfl k))) ?_
  refine es_get (v := .ref (w.2.1 + 405)) xc_6 dX6_change_12 fl_X6_28 (by decide) (by decide) (cel_404 _ _ _) rfl ?_
  refine es_callVI (as := []) (rest := [.ref (w.2.1 + v19)]) hf xc_7 dX6_change_15 cs_X6_change_X7_cursor ml_X6_206 im_X7_cursor se_X7_cursor rfl rfl (Nat.le_of_ble_eq_true rfl) (Nat.le_of_ble_eq_true rfl) (by decide) rfl (cel_405 _ _ _) (fun _ e => t_X7_cursor N  S18 _ e) (by decide) (fun v21 S20 hf => ?_)
  obtain ⟨g22, hf⟩ := xg hf
  refine es_put xc_8 dX6_change_18 fl_X6_185 (by decide) (by decide) (xStep_lt g22) (cel_st g22 _ _ _) rfl rfl rfl (by rw [cel_st g22]; rfl) ?_
  refine es_l (pc' := 23) (ls' := [(1, .ref (w.2.1 + v19)), (0, .ref (w.2.1 + 404))]) (st' := [.ref (w.2.1 + 404), .ref (w.2.1 + v19)]) (fun _ _ k => e_aload_n dX6_change_21 0 rfl (e_aload_n dX6_change_22 1 rfl k)) ?_
  refine es_get (v := .ref (w.2.1 + 405)) xc_6 dX6_change_23 fl_X6_28 (by decide) (by decide) (cel_404 _ _ _) rfl ?_
  refine es_callVI (as := []) (rest := [.ref (w.2.1 + v19)]) hf xc_7 dX6_change_26 cs_X6_change_X7_takeKind ml_X6_136 im_X7_takeKind se_X7_takeKind rfl rfl (Nat.le_of_ble_eq_true rfl) (Nat.le_of_ble_eq_true rfl) (by decide) rfl (cel_405 _ _ _) (fun _ e => t_X7_takeKind N  (sI S20 v19 3 v21) _ e) (by decide) (fun v24 S23 hf => ?_)
  refine es_put xc_8 dX6_change_29 fl_X6_139 (by decide) (by decide) (xStep_lt g22) (cel_st g22 _ _ _) rfl rfl rfl (by rw [cel_st g22]; rfl) ?_
  refine es_l (pc' := 33) (ls' := [(1, .ref (w.2.1 + v19)), (0, .ref (w.2.1 + 404))]) (st' := [.ref (w.2.1 + 404)]) (fun _ _ k => e_aload_n dX6_change_32 1 rfl k) ?_
  refine es_get (v := .ref (w.2.1 + 1)) xc_6 dX6_change_33 fl_X6_9 (by decide) (by decide) (cel_404 _ _ _) rfl ?_
  refine es_l (pc' := 38) (ls' := [(1, .ref (w.2.1 + v19)), (0, .ref (w.2.1 + 404))]) (st' := [.int 36, .ref (w.2.1 + 1)]) (fun _ _ k => e_bipush (v := 36) dX6_change_36 (by decide) k) ?_
  refine es_callVV (as := [.int 36]) (rest := []) hf xc_9 dX6_change_38 cs_X6_change_X9_take ml_X6_122 im_X9_take se_X9_take rfl rfl (Nat.le_of_ble_eq_true rfl) (Nat.le_of_ble_eq_true rfl) (by decide) rfl (cel_1 _ _ _) (fun _ e => t_X9_take N 36 (sI S23 v19 1 v24) _ e) (by decide) (fun S25 hf => ?_)
  refine es_l (pc' := 43) (ls' := [(1, .ref (w.2.1 + v19)), (0, .ref (w.2.1 + 404))]) (st' := [.ref (w.2.1 + 404), .ref (w.2.1 + v19)]) (fun _ _ k => e_aload_n dX6_change_41 0 rfl (e_aload_n dX6_change_42 1 rfl k)) ?_
  refine es_get (v := .ref (w.2.1 + 405)) xc_6 dX6_change_43 fl_X6_28 (by decide) (by decide) (cel_404 _ _ _) rfl ?_
  refine es_l (pc' := 47) (ls' := [(1, .ref (w.2.1 + v19)), (0, .ref (w.2.1 + 404))]) (st' := [.ref (w.2.1 + v19), .ref (w.2.1 + 405), .ref (w.2.1 + v19)]) (fun _ _ k => e_aload_n dX6_change_46 0 rfl k) ?_
  refine es_get (v := .int (S25.1 v19 1)) xc_8 dX6_change_47 fl_X6_139 (by decide) (xStep_lt g22) (cel_st g22 _ _ _) rfl ?_
  refine es_callVI (as := [.int (S25.1 v19 1)]) (rest := [.ref (w.2.1 + v19)]) hf xc_7 dX6_change_50 cs_X6_change_X7_takeField ml_X6_177 im_X7_takeField se_X7_takeField rfl rfl (Nat.le_of_ble_eq_true rfl) (Nat.le_of_ble_eq_true rfl) (by decide) rfl (cel_405 _ _ _) (fun _ e => t_X7_takeField N (S25.1 v19 1) S25 _ e) (by decide) (fun v28 S27 hf => ?_)
  refine es_put xc_8 dX6_change_53 fl_X6_180 (by decide) (by decide) (xStep_lt g22) (cel_st g22 _ _ _) rfl rfl rfl (by rw [cel_st g22]; rfl) ?_
  refine es_l (pc' := 57) (ls' := [(1, .ref (w.2.1 + v19)), (0, .ref (w.2.1 + 404))]) (st' := [.ref (w.2.1 + 404)]) (fun _ _ k => e_aload_n dX6_change_56 1 rfl k) ?_
  refine es_get (v := .ref (w.2.1 + 1)) xc_6 dX6_change_57 fl_X6_9 (by decide) (by decide) (cel_404 _ _ _) rfl ?_
  refine es_l (pc' := 62) (ls' := [(1, .ref (w.2.1 + v19)), (0, .ref (w.2.1 + 404))]) (st' := [.int 21, .ref (w.2.1 + 1)]) (fun _ _ k => e_bipush (v := 21) dX6_change_60 (by decide) k) ?_
  refine es_callVV (as := [.int 21]) (rest := []) hf xc_9 dX6_change_62 cs_X6_change_X9_take ml_X6_122 im_X9_take se_X9_take rfl rfl (Nat.le_of_ble_eq_true rfl) (Nat.le_of_ble_eq_true rfl) (by decide) rfl (cel_1 _ _ _) (fun _ e => t_X9_take N 21 (sI S27 v19 2 v28) _ e) (by decide) (fun S29 hf => ?_)
  refine es_l (pc' := 67) (ls' := [(1, .ref (w.2.1 + v19)), (0, .ref (w.2.1 + 404))]) (st' := [.ref (w.2.1 + 404), .ref (w.2.1 + v19)]) (fun _ _ k => e_aload_n dX6_change_65 0 rfl (e_aload_n dX6_change_66 1 rfl k)) ?_
  refine es_get (v := .ref (w.2.1 + 407)) xc_6 dX6_change_67 fl_X6_37 (by decide) (by decide) (cel_404 _ _ _) rfl ?_
  refine es_l (pc' := 71) (ls' := [(1, .ref (w.2.1 + v19)), (0, .ref (w.2.1 + 404))]) (st' := [.int 0, .ref (w.2.1 + 407), .ref (w.2.1 + v19)]) (fun _ _ k => e_iconst (v := 0) dX6_change_70 (by decide) k) ?_
  refine es_callVI (as := [.int 0]) (rest := [.ref (w.2.1 + v19)]) hf xc_1 dX6_change_71 cs_X6_change_X1_read ml_X6_154 im_X1_read se_X1_read rfl rfl (Nat.le_of_ble_eq_true rfl) (Nat.le_of_ble_eq_true rfl) (by decide) rfl (cel_407 _ _ _) (fun _ e => t_X1_read N 0 S29 _ e) (by decide) (fun v32 S31 hf => ?_)
  refine es_put xc_8 dX6_change_74 fl_X6_174 (by decide) (by decide) (xStep_lt g22) (cel_st g22 _ _ _) rfl rfl rfl (by rw [cel_st g22]; rfl) ?_
  refine es_l (pc' := 78) (ls' := [(1, .ref (w.2.1 + v19)), (0, .ref (w.2.1 + 404))]) (st' := [.ref (w.2.1 + 404)]) (fun _ _ k => e_aload_n dX6_change_77 1 rfl k) ?_
  refine es_get (v := .ref (w.2.1 + 1)) xc_6 dX6_change_78 fl_X6_9 (by decide) (by decide) (cel_404 _ _ _) rfl ?_
  refine es_l (pc' := 83) (ls' := [(1, .ref (w.2.1 + v19)), (0, .ref (w.2.1 + 404))]) (st' := [.int 34, .ref (w.2.1 + 1)]) (fun _ _ k => e_bipush (v := 34) dX6_change_81 (by decide) k) ?_
  refine es_callVV (as := [.int 34]) (rest := []) hf xc_9 dX6_change_83 cs_X6_change_X9_take ml_X6_122 im_X9_take se_X9_take rfl rfl (Nat.le_of_ble_eq_true rfl) (Nat.le_of_ble_eq_true rfl) (by decide) rfl (cel_1 _ _ _) (fun _ e => t_X9_take N 34 (sI S31 v19 6 v32) _ e) (by decide) (fun S33 hf => ?_)
  exact es_return dX6_change_86 rfl hf
def f_X6_noBlockIsOpen (N : Nat)  (S : xS) : Option xr :=
  if (S.1 405 4) ≤ 0 then
    some (.inl none, S)
  else
    some (.inr "java/lang/IllegalArgumentException", sE S)
set_option maxRecDepth 100000 in
set_option maxHeartbeats 4000000 in
theorem t_X6_noBlockIsOpen {l : Launch} {w : xW} {g : Nat → xE} (N : Nat)  (S : xS) (r : xr) (hf : f_X6_noBlockIsOpen N  S = some r) : ES l w g M_X6_noBlockIsOpen 0 (lv_args 0 [.ref (w.2.1 + 404)]) [] S r := by
  show ES l w g M_X6_noBlockIsOpen 0 [(0, .ref (w.2.1 + 404))] [] S r
  unfold f_X6_noBlockIsOpen at hf
  refine es_l (pc' := 1) (ls' := [(0, .ref (w.2.1 + 404))]) (st' := [.ref (w.2.1 + 404)]) (fun _ _ k => e_aload_n dX6_noBlockIsOpen_0 0 rfl k) ?_
  refine es_get (v := .ref (w.2.1 + 405)) xc_6 dX6_noBlockIsOpen_1 fl_X6_28 (by decide) (by decide) (cel_404 _ _ _) rfl ?_
  refine es_get (v := .int (S.1 405 4)) xc_7 dX6_noBlockIsOpen_4 fl_X6_182 (by decide) (by decide) (cel_405 _ _ _) rfl ?_
  refine es_br (c := (S.1 405 4) ≤ 0) (tgt := 18) (pf := 10) (st' := []) (fun _ _ a b => e_if_le dX6_noBlockIsOpen_7 rfl a b) (fun c2 => ?_) (fun c2 => ?_)
  · rw [if_pos c2] at hf
    exact es_return dX6_noBlockIsOpen_18 rfl hf
  · rw [if_neg c2] at hf
    exact es_throw (names := ["java/lang/RuntimeException", "java/lang/Exception"]) (by decide +kernel) (by decide +kernel) th_k_X6_89 th_i_IllegalArgumentException th_a_X6_89 th_g_X6_89 dX6_noBlockIsOpen_10 dX6_noBlockIsOpen_13 dX6_noBlockIsOpen_14 dX6_noBlockIsOpen_17 (by decide) (by decide) (by decide) hf
def f_X6_reads_264 (N : Nat)   (S : xS) : Option xr :=
  xcVH (f_X6_noBlockIsOpen N S) (fun S117 =>
    some (.inl (some (.inl 1)), S117)
  ) (fun S119 =>
    some (.inl (some (.inl 0)), S119)
  )
def f_X6_reads_258 (N : Nat) (k16 : Int32 → xS → Option xr) (x1 : Int32) (S : xS) : Option xr :=
  k16 (x1 + 1) S
def f_X6_reads_16 (N : Nat)  : Nat → Int32 → xS → Option xr
  | 0, _, _ => none
  | n + 1, x1, S =>
  if 150 < x1 then
    f_X6_reads_264 N S
  else
    xcIH (f_X9_sort N S) (fun v122 S121 =>
      if v122 = 0 then
        f_X6_reads_264 N S121
      else
        xcIH (f_X9_sort N S121) (fun v126 S125 =>
          if (v126 : Int32).toInt ∈ [(1 : Int)] then
            xcVH (f_X6_kind N S125) (fun S129 =>
              f_X6_reads_258 N (f_X6_reads_16 N n) x1 S129
            ) (fun S131 =>
              some (.inl (some (.inl 0)), S131)
            )
          else
          if (v126 : Int32).toInt ∈ [(2 : Int)] then
            xcVH (f_X6_insert N S125) (fun S133 =>
              f_X6_reads_258 N (f_X6_reads_16 N n) x1 S133
            ) (fun S135 =>
              some (.inl (some (.inl 0)), S135)
            )
          else
          if (v126 : Int32).toInt ∈ [(3 : Int)] then
            xcVH (f_X6_delete N S125) (fun S137 =>
              f_X6_reads_258 N (f_X6_reads_16 N n) x1 S137
            ) (fun S139 =>
              some (.inl (some (.inl 0)), S139)
            )
          else
          if (v126 : Int32).toInt ∈ [(5 : Int)] then
            xcVH (f_X6_set N S125) (fun S141 =>
              f_X6_reads_258 N (f_X6_reads_16 N n) x1 S141
            ) (fun S143 =>
              some (.inl (some (.inl 0)), S143)
            )
          else
          if (v126 : Int32).toInt ∈ [(6 : Int)] then
            xcVH (f_X6_let N S125) (fun S145 =>
              f_X6_reads_258 N (f_X6_reads_16 N n) x1 S145
            ) (fun S147 =>
              some (.inl (some (.inl 0)), S147)
            )
          else
          if (v126 : Int32).toInt ∈ [(7 : Int)] then
            xcVH (f_X6_output N S125) (fun S149 =>
              f_X6_reads_258 N (f_X6_reads_16 N n) x1 S149
            ) (fun S151 =>
              some (.inl (some (.inl 0)), S151)
            )
          else
          if (v126 : Int32).toInt ∈ [(8 : Int)] then
            xcVH (f_X6_each N S125) (fun S153 =>
              f_X6_reads_258 N (f_X6_reads_16 N n) x1 S153
            ) (fun S155 =>
              some (.inl (some (.inl 0)), S155)
            )
          else
          if (v126 : Int32).toInt ∈ [(10 : Int), (12 : Int)] then
            xcVH (f_X6_conditional N S125) (fun S157 =>
              f_X6_reads_258 N (f_X6_reads_16 N n) x1 S157
            ) (fun S159 =>
              some (.inl (some (.inl 0)), S159)
            )
          else
          if (v126 : Int32).toInt ∈ [(13 : Int)] then
            xcVH (f_X6_remove N S125) (fun S161 =>
              f_X6_reads_258 N (f_X6_reads_16 N n) x1 S161
            ) (fun S163 =>
              some (.inl (some (.inl 0)), S163)
            )
          else
          if (v126 : Int32).toInt ∈ [(32 : Int)] then
            xcVH (f_X6_closeBlock N S125) (fun S165 =>
              f_X6_reads_258 N (f_X6_reads_16 N n) x1 S165
            ) (fun S167 =>
              some (.inl (some (.inl 0)), S167)
            )
          else
          xcVH (f_X6_change N S125) (fun S168 =>
            f_X6_reads_258 N (f_X6_reads_16 N n) x1 S168
          ) (fun S170 =>
            some (.inl (some (.inl 0)), S170)
          )
        ) (fun S127 =>
          some (.inl (some (.inl 0)), S127)
        )
    ) (fun S123 =>
      some (.inl (some (.inl 0)), S123)
    )
def f_X6_reads (N : Nat)  (S : xS) : Option xr :=
  xcV (f_X7_clear N S) (fun S171 =>
  xcV (f_X5_clear N S171) (fun S173 =>
  f_X6_reads_16 N N 0 S173
  )
  )