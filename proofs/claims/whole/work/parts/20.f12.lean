def f_X12_block (N : Nat) (x1 : Int32) (x2 : Int32) (x3 : Int32) (x4 : Int32) (S : xS) : Option xr :=
  if xin (S.1 503 30) 12 then
  some (.inl none, sI (sI (sI (sI (sI S 520 ((S.1 503 30).toNatClampNeg) x1) 521 ((S.1 503 30).toNatClampNeg) x2) 522 ((S.1 503 30).toNatClampNeg) x3) 523 ((S.1 503 30).toNatClampNeg) x4) 503 30 ((S.1 503 30) + 1))
  else none
set_option maxRecDepth 100000 in
set_option maxHeartbeats 4000000 in
theorem t_X12_block {l : Launch} {w : xW} {g : Nat → xE} (N : Nat) (x1 : Int32) (x2 : Int32) (x3 : Int32) (x4 : Int32) (S : xS) (r : xr) (hf : f_X12_block N x1 x2 x3 x4 S = some r) : ES l w g M_X12_block 0 (lv_args 0 [.ref (w.2.1 + 503), .int x1, .int x2, .int x3, .int x4]) [] S r := by
  show ES l w g M_X12_block 0 [(0, .ref (w.2.1 + 503)), (1, .int x1), (2, .int x2), (3, .int x3), (4, .int x4)] [] S r
  unfold f_X12_block at hf
  refine es_l (pc' := 1) (ls' := [(0, .ref (w.2.1 + 503)), (1, .int x1), (2, .int x2), (3, .int x3), (4, .int x4)]) (st' := [.ref (w.2.1 + 503)]) (fun _ _ k => e_aload_n dX12_block_0 0 rfl k) ?_
  refine es_get (v := .ref (w.2.1 + 520)) xc_12 dX12_block_1 fl_X12_106 (by decide) (by decide) (cel_503 _ _ _) rfl ?_
  refine es_l (pc' := 5) (ls' := [(0, .ref (w.2.1 + 503)), (1, .int x1), (2, .int x2), (3, .int x3), (4, .int x4)]) (st' := [.ref (w.2.1 + 503), .ref (w.2.1 + 520)]) (fun _ _ k => e_aload_n dX12_block_4 0 rfl k) ?_
  refine es_get (v := .int (S.1 503 30)) xc_12 dX12_block_5 fl_X12_103 (by decide) (by decide) (cel_503 _ _ _) rfl ?_
  refine es_l (pc' := 9) (ls' := [(0, .ref (w.2.1 + 503)), (1, .int x1), (2, .int x2), (3, .int x3), (4, .int x4)]) (st' := [.int x1, .int (S.1 503 30), .ref (w.2.1 + 520)]) (fun _ _ k => e_iload_n dX12_block_8 1 rfl k) ?_
  obtain ⟨g2, hf⟩ := xg hf
  refine es_iast dX12_block_9 (by decide) (cel_520 _) g2 ?_
  refine es_l (pc' := 11) (ls' := [(0, .ref (w.2.1 + 503)), (1, .int x1), (2, .int x2), (3, .int x3), (4, .int x4)]) (st' := [.ref (w.2.1 + 503)]) (fun _ _ k => e_aload_n dX12_block_10 0 rfl k) ?_
  refine es_get (v := .ref (w.2.1 + 521)) xc_12 dX12_block_11 fl_X12_109 (by decide) (by decide) (cel_503 _ _ _) rfl ?_
  refine es_l (pc' := 15) (ls' := [(0, .ref (w.2.1 + 503)), (1, .int x1), (2, .int x2), (3, .int x3), (4, .int x4)]) (st' := [.ref (w.2.1 + 503), .ref (w.2.1 + 521)]) (fun _ _ k => e_aload_n dX12_block_14 0 rfl k) ?_
  refine es_get (v := .int (S.1 503 30)) xc_12 dX12_block_15 fl_X12_103 (by decide) (by decide) (cel_503 _ _ _) rfl ?_
  refine es_l (pc' := 19) (ls' := [(0, .ref (w.2.1 + 503)), (1, .int x1), (2, .int x2), (3, .int x3), (4, .int x4)]) (st' := [.int x2, .int (S.1 503 30), .ref (w.2.1 + 521)]) (fun _ _ k => e_iload_n dX12_block_18 2 rfl k) ?_
  refine es_iast dX12_block_19 (by decide) (cel_521 _) g2 ?_
  refine es_l (pc' := 21) (ls' := [(0, .ref (w.2.1 + 503)), (1, .int x1), (2, .int x2), (3, .int x3), (4, .int x4)]) (st' := [.ref (w.2.1 + 503)]) (fun _ _ k => e_aload_n dX12_block_20 0 rfl k) ?_
  refine es_get (v := .ref (w.2.1 + 522)) xc_12 dX12_block_21 fl_X12_112 (by decide) (by decide) (cel_503 _ _ _) rfl ?_
  refine es_l (pc' := 25) (ls' := [(0, .ref (w.2.1 + 503)), (1, .int x1), (2, .int x2), (3, .int x3), (4, .int x4)]) (st' := [.ref (w.2.1 + 503), .ref (w.2.1 + 522)]) (fun _ _ k => e_aload_n dX12_block_24 0 rfl k) ?_
  refine es_get (v := .int (S.1 503 30)) xc_12 dX12_block_25 fl_X12_103 (by decide) (by decide) (cel_503 _ _ _) rfl ?_
  refine es_l (pc' := 29) (ls' := [(0, .ref (w.2.1 + 503)), (1, .int x1), (2, .int x2), (3, .int x3), (4, .int x4)]) (st' := [.int x3, .int (S.1 503 30), .ref (w.2.1 + 522)]) (fun _ _ k => e_iload_n dX12_block_28 3 rfl k) ?_
  refine es_iast dX12_block_29 (by decide) (cel_522 _) g2 ?_
  refine es_l (pc' := 31) (ls' := [(0, .ref (w.2.1 + 503)), (1, .int x1), (2, .int x2), (3, .int x3), (4, .int x4)]) (st' := [.ref (w.2.1 + 503)]) (fun _ _ k => e_aload_n dX12_block_30 0 rfl k) ?_
  refine es_get (v := .ref (w.2.1 + 523)) xc_12 dX12_block_31 fl_X12_115 (by decide) (by decide) (cel_503 _ _ _) rfl ?_
  refine es_l (pc' := 35) (ls' := [(0, .ref (w.2.1 + 503)), (1, .int x1), (2, .int x2), (3, .int x3), (4, .int x4)]) (st' := [.ref (w.2.1 + 503), .ref (w.2.1 + 523)]) (fun _ _ k => e_aload_n dX12_block_34 0 rfl k) ?_
  refine es_get (v := .int (S.1 503 30)) xc_12 dX12_block_35 fl_X12_103 (by decide) (by decide) (cel_503 _ _ _) rfl ?_
  refine es_l (pc' := 40) (ls' := [(0, .ref (w.2.1 + 503)), (1, .int x1), (2, .int x2), (3, .int x3), (4, .int x4)]) (st' := [.int x4, .int (S.1 503 30), .ref (w.2.1 + 523)]) (fun _ _ k => e_iload dX12_block_38 4 rfl k) ?_
  refine es_iast dX12_block_40 (by decide) (cel_523 _) g2 ?_
  refine es_l (pc' := 43) (ls' := [(0, .ref (w.2.1 + 503)), (1, .int x1), (2, .int x2), (3, .int x3), (4, .int x4)]) (st' := [.ref (w.2.1 + 503), .ref (w.2.1 + 503)]) (fun _ _ k => e_aload_n dX12_block_41 0 rfl (e_dup dX12_block_42 rfl k)) ?_
  refine es_get (v := .int (S.1 503 30)) xc_12 dX12_block_43 fl_X12_103 (by decide) (by decide) (cel_503 _ _ _) rfl ?_
  refine es_l (pc' := 48) (ls' := [(0, .ref (w.2.1 + 503)), (1, .int x1), (2, .int x2), (3, .int x3), (4, .int x4)]) (st' := [.int ((S.1 503 30) + 1), .ref (w.2.1 + 503)]) (fun _ _ k => e_iconst (v := 1) dX12_block_46 (by decide) (e_iadd dX12_block_47 k)) ?_
  refine es_put xc_12 dX12_block_48 fl_X12_103 (by decide) (by decide) (by decide) (cel_503 _ _ _) rfl rfl rfl rfl ?_
  exact es_return dX12_block_51 rfl hf
def f_X12_opens_16 (N : Nat)   (S : xS) : Option xr :=
  xcI (f_X12_wrong N S) (fun v20 S19 =>
  if xbo v20 then
  some (.inl (some (.inl v20)), S19)
  else none
  )
set_option maxRecDepth 100000 in
set_option maxHeartbeats 4000000 in
theorem t_X12_opens_16 {l : Launch} {w : xW} {g : Nat → xE} (N : Nat)    (S : xS) (r : xr) (hf : f_X12_opens_16 N   S = some r) : ES l w g M_X12_opens 16 [(0, .ref (w.2.1 + 503))] [] S r := by
  unfold f_X12_opens_16 at hf
  refine es_l (pc' := 17) (ls' := [(0, .ref (w.2.1 + 503))]) (st' := [.ref (w.2.1 + 503)]) (fun _ _ k => e_aload_n dX12_opens_16 0 rfl k) ?_
  refine es_callVI (as := []) (rest := []) hf xc_12 dX12_opens_17 cs_X12_opens_X12_wrong ml_X12_235 im_X12_wrong se_X12_wrong rfl rfl (Nat.le_of_ble_eq_true rfl) (Nat.le_of_ble_eq_true rfl) (by decide) rfl (cel_503 _ _ _) (fun _ e => t_X12_wrong N  S _ e) (by decide) (fun v20 S19 hf => ?_)
  obtain ⟨g21, hf⟩ := xg hf
  exact es_ireturn (ty := .boolean) dX12_opens_20 rfl (xbo_n g21) hf
def f_X12_opens (N : Nat)  (S : xS) : Option xr :=
  xcI (f_X12_isSign N 123 S) (fun v23 S22 =>
  if v23 = 0 then
    f_X12_opens_16 N S22
  else
    xcI (f_X12_bracket N S22) (fun v26 S25 =>
    if v26 = 0 then
      f_X12_opens_16 N S25
    else
      some (.inl (some (.inl 1)), sI S25 503 20 ((S25.1 503 20) + 1))
    )
  )
set_option maxRecDepth 100000 in
set_option maxHeartbeats 4000000 in
theorem t_X12_opens {l : Launch} {w : xW} {g : Nat → xE} (N : Nat)  (S : xS) (r : xr) (hf : f_X12_opens N  S = some r) : ES l w g M_X12_opens 0 (lv_args 0 [.ref (w.2.1 + 503)]) [] S r := by
  show ES l w g M_X12_opens 0 [(0, .ref (w.2.1 + 503))] [] S r
  unfold f_X12_opens at hf
  refine es_l (pc' := 3) (ls' := [(0, .ref (w.2.1 + 503))]) (st' := [.int 123, .ref (w.2.1 + 503)]) (fun _ _ k => e_aload_n dX12_opens_0 0 rfl (e_bipush (v := 123) dX12_opens_1 (by decide) k)) ?_
  refine es_callVI (as := [.int 123]) (rest := []) hf xc_12 dX12_opens_3 cs_X12_opens_X12_isSign ml_X12_232 im_X12_isSign se_X12_isSign rfl rfl (Nat.le_of_ble_eq_true rfl) (Nat.le_of_ble_eq_true rfl) (by decide) rfl (cel_503 _ _ _) (fun _ e => t_X12_isSign N 123 S _ e) (by decide) (fun v23 S22 hf => ?_)
  refine es_br (c := v23 = 0) (tgt := 16) (pf := 9) (st' := []) (fun _ _ a b => e_if_eq dX12_opens_6 rfl a b) (fun c24 => ?_) (fun c24 => ?_)
  · rw [if_pos c24] at hf
    exact t_X12_opens_16 N S22 r hf
  · rw [if_neg c24] at hf
    refine es_l (pc' := 10) (ls' := [(0, .ref (w.2.1 + 503))]) (st' := [.ref (w.2.1 + 503)]) (fun _ _ k => e_aload_n dX12_opens_9 0 rfl k) ?_
    refine es_callVI (as := []) (rest := []) hf xc_12 dX12_opens_10 cs_X12_opens_X12_bracket ml_X12_285 im_X12_bracket se_X12_bracket rfl rfl (Nat.le_of_ble_eq_true rfl) (Nat.le_of_ble_eq_true rfl) (by decide) rfl (cel_503 _ _ _) (fun _ e => t_X12_bracket N  S22 _ e) (by decide) (fun v26 S25 hf => ?_)
    refine es_br (c := v26 = 0) (tgt := 16) (pf := 21) (st' := []) (fun _ _ a b => e_if_ne dX12_opens_13 rfl b a) (fun c27 => ?_) (fun c27 => ?_)
    · rw [if_pos c27] at hf
      exact t_X12_opens_16 N S25 r hf
    · rw [if_neg c27] at hf
      refine es_l (pc' := 23) (ls' := [(0, .ref (w.2.1 + 503))]) (st' := [.ref (w.2.1 + 503), .ref (w.2.1 + 503)]) (fun _ _ k => e_aload_n dX12_opens_21 0 rfl (e_dup dX12_opens_22 rfl k)) ?_
      refine es_get (v := .int (S25.1 503 20)) xc_12 dX12_opens_23 fl_X12_72 (by decide) (by decide) (cel_503 _ _ _) rfl ?_
      refine es_l (pc' := 28) (ls' := [(0, .ref (w.2.1 + 503))]) (st' := [.int ((S25.1 503 20) + 1), .ref (w.2.1 + 503)]) (fun _ _ k => e_iconst (v := 1) dX12_opens_26 (by decide) (e_iadd dX12_opens_27 k)) ?_
      refine es_put xc_12 dX12_opens_28 fl_X12_72 (by decide) (by decide) (by decide) (cel_503 _ _ _) rfl rfl rfl rfl ?_
      refine es_l (pc' := 32) (ls' := [(0, .ref (w.2.1 + 503))]) (st' := [.int 1]) (fun _ _ k => e_iconst (v := 1) dX12_opens_31 (by decide) k) ?_
      exact es_ireturn (ty := .boolean) dX12_opens_32 rfl rfl hf
def f_X12_each_34 (N : Nat)   (S : xS) : Option xr :=
  some (.inl (some (.inl 0)), S)
set_option maxRecDepth 100000 in
set_option maxHeartbeats 4000000 in
theorem t_X12_each_34 {l : Launch} {w : xW} {g : Nat → xE} (N : Nat)    (S : xS) (r : xr) (hf : f_X12_each_34 N   S = some r) : ES l w g M_X12_each 34 [] [] S r := by
  unfold f_X12_each_34 at hf
  refine es_l (pc' := 35) (ls' := []) (st' := [.int 0]) (fun _ _ k => e_iconst (v := 0) dX12_each_34 (by decide) k) ?_
  exact es_ireturn (ty := .boolean) dX12_each_35 rfl rfl hf
def f_X12_each (N : Nat)  (S : xS) : Option xr :=
  xcV (f_X12_emit N 100 S) (fun S75 =>
  xcI (f_X12_takeKind N (sI S75 503 20 ((S75.1 503 20) + 1))) (fun v78 S77 =>
  if v78 < 0 then
    f_X12_each_34 N S77
  else
    xcI (f_X12_keyword N 8 S77) (fun v81 S80 =>
    if v81 = 0 then
      f_X12_each_34 N S80
    else
      xcI (f_X12_takeField N v78 S80) (fun v84 S83 =>
      if 0 ≤ v84 then
        xcI (f_X12_levels N S83) (fun v87 S86 =>
        xcV (f_X12_emit N 106 S86) (fun S88 =>
        xcV (f_X12_emit N v87 S88) (fun S90 =>
        xcV (f_X12_emit N v78 S90) (fun S92 =>
        xcV (f_X12_emit N v84 S92) (fun S94 =>
        xcI (f_X12_whereOf N v78 S94) (fun v97 S96 =>
        if v97 = 0 then
          some (.inl (some (.inl 0)), S96)
        else
          xcV (f_X12_emit N 107 S96) (fun S99 =>
          xcV (f_X12_emit N v87 S99) (fun S101 =>
          xcV (f_X12_emit N v78 S101) (fun S103 =>
          xcV (f_X12_emit N 0 S103) (fun S105 =>
          xcV (f_X12_block N 4 ((S105.1 503 25) - 1) (S96.1 503 25) v78 S105) (fun S107 =>
          xcI (f_X12_opens N S107) (fun v110 S109 =>
          if xbo v110 then
          some (.inl (some (.inl v110)), S109)
          else none
          )
          )
          )
          )
          )
          )
        )
        )
        )
        )
        )
        )
      else
        some (.inl (some (.inl 0)), S83)
      )
    )
  )
  )
set_option maxRecDepth 100000 in
set_option maxHeartbeats 4000000 in
theorem t_X12_each {l : Launch} {w : xW} {g : Nat → xE} (N : Nat)  (S : xS) (r : xr) (hf : f_X12_each N  S = some r) : ES l w g M_X12_each 0 (lv_args 0 [.ref (w.2.1 + 503)]) [] S r := by
  show ES l w g M_X12_each 0 [(0, .ref (w.2.1 + 503))] [] S r
  unfold f_X12_each at hf
  refine es_l (pc' := 3) (ls' := [(0, .ref (w.2.1 + 503))]) (st' := [.int 100, .ref (w.2.1 + 503)]) (fun _ _ k => e_aload_n dX12_each_0 0 rfl (e_bipush (v := 100) dX12_each_1 (by decide) k)) ?_
  refine es_callVV (as := [.int 100]) (rest := []) hf xc_12 dX12_each_3 cs_X12_each_X12_emit ml_X12_278 im_X12_emit se_X12_emit rfl rfl (Nat.le_of_ble_eq_true rfl) (Nat.le_of_ble_eq_true rfl) (by decide) rfl (cel_503 _ _ _) (fun _ e => t_X12_emit N 100 S _ e) (by decide) (fun S75 hf => ?_)
  refine es_l (pc' := 8) (ls' := [(0, .ref (w.2.1 + 503))]) (st' := [.ref (w.2.1 + 503), .ref (w.2.1 + 503)]) (fun _ _ k => e_aload_n dX12_each_6 0 rfl (e_dup dX12_each_7 rfl k)) ?_
  refine es_get (v := .int (S75.1 503 20)) xc_12 dX12_each_8 fl_X12_72 (by decide) (by decide) (cel_503 _ _ _) rfl ?_
  refine es_l (pc' := 13) (ls' := [(0, .ref (w.2.1 + 503))]) (st' := [.int ((S75.1 503 20) + 1), .ref (w.2.1 + 503)]) (fun _ _ k => e_iconst (v := 1) dX12_each_11 (by decide) (e_iadd dX12_each_12 k)) ?_
  refine es_put xc_12 dX12_each_13 fl_X12_72 (by decide) (by decide) (by decide) (cel_503 _ _ _) rfl rfl rfl rfl ?_
  refine es_l (pc' := 17) (ls' := [(0, .ref (w.2.1 + 503))]) (st' := [.ref (w.2.1 + 503)]) (fun _ _ k => e_aload_n dX12_each_16 0 rfl k) ?_
  refine es_callVI (as := []) (rest := []) hf xc_12 dX12_each_17 cs_X12_each_X12_takeKind ml_X12_305 im_X12_takeKind se_X12_takeKind rfl rfl (Nat.le_of_ble_eq_true rfl) (Nat.le_of_ble_eq_true rfl) (by decide) rfl (cel_503 _ _ _) (fun _ e => t_X12_takeKind N  (sI S75 503 20 ((S75.1 503 20) + 1)) _ e) (by decide) (fun v78 S77 hf => ?_)
  refine es_l (pc' := 22) (ls' := [(1, .int v78), (0, .ref (w.2.1 + 503))]) (st' := [.int v78]) (fun _ _ k => e_istore_n (ls' := [(1, .int v78), (0, .ref (w.2.1 + 503))]) dX12_each_20 (by decide) rfl (e_iload_n dX12_each_21 0 rfl k)) ?_
  refine es_br (c := v78 < 0) (tgt := 34) (pf := 25) (st' := []) (fun _ _ a b => e_if_lt dX12_each_22 rfl a b) (fun c79 => ?_) (fun c79 => ?_)
  · rw [if_pos c79] at hf
    refine es_sub [] rfl ?_
    exact t_X12_each_34 N S77 r hf
  · rw [if_neg c79] at hf
    refine es_l (pc' := 28) (ls' := [(1, .int v78), (0, .ref (w.2.1 + 503))]) (st' := [.int 8, .ref (w.2.1 + 503)]) (fun _ _ k => e_aload_n dX12_each_25 1 rfl (e_bipush (v := 8) dX12_each_26 (by decide) k)) ?_
    refine es_callVI (as := [.int 8]) (rest := []) hf xc_12 dX12_each_28 cs_X12_each_X12_keyword ml_X12_321 im_X12_keyword se_X12_keyword rfl rfl (Nat.le_of_ble_eq_true rfl) (Nat.le_of_ble_eq_true rfl) (by decide) rfl (cel_503 _ _ _) (fun _ e => t_X12_keyword N 8 S77 _ e) (by decide) (fun v81 S80 hf => ?_)
    refine es_br (c := v81 = 0) (tgt := 34) (pf := 36) (st' := []) (fun _ _ a b => e_if_ne dX12_each_31 rfl b a) (fun c82 => ?_) (fun c82 => ?_)
    · rw [if_pos c82] at hf
      refine es_sub [] rfl ?_
      exact t_X12_each_34 N S80 r hf
    · rw [if_neg c82] at hf
      refine es_l (pc' := 38) (ls' := [(1, .int v78), (0, .ref (w.2.1 + 503))]) (st' := [.int v78, .ref (w.2.1 + 503)]) (fun _ _ k => e_aload_n dX12_each_36 1 rfl (e_iload_n dX12_each_37 0 rfl k)) ?_
      refine es_callVI (as := [.int v78]) (rest := []) hf xc_12 dX12_each_38 cs_X12_each_X12_takeField ml_X12_302 im_X12_takeField se_X12_takeField rfl rfl (Nat.le_of_ble_eq_true rfl) (Nat.le_of_ble_eq_true rfl) (by decide) rfl (cel_503 _ _ _) (fun _ e => t_X12_takeField N v78 S80 _ e) (by decide) (fun v84 S83 hf => ?_)
      refine es_l (pc' := 43) (ls' := [(2, .int v84), (1, .int v78), (0, .ref (w.2.1 + 503))]) (st' := [.int v84]) (fun _ _ k => e_istore_n (ls' := [(2, .int v84), (1, .int v78), (0, .ref (w.2.1 + 503))]) dX12_each_41 (by decide) rfl (e_iload_n dX12_each_42 0 rfl k)) ?_
      refine es_br (c := 0 ≤ v84) (tgt := 48) (pf := 46) (st' := []) (fun _ _ a b => e_if_ge dX12_each_43 rfl a b) (fun c85 => ?_) (fun c85 => ?_)
      · rw [if_pos c85] at hf
        refine es_l (pc' := 49) (ls' := [(2, .int v84), (1, .int v78), (0, .ref (w.2.1 + 503))]) (st' := [.ref (w.2.1 + 503)]) (fun _ _ k => e_aload_n dX12_each_48 2 rfl k) ?_
        refine es_callVI (as := []) (rest := []) hf xc_12 dX12_each_49 cs_X12_each_X12_levels ml_X12_324 im_X12_levels se_X12_levels rfl rfl (Nat.le_of_ble_eq_true rfl) (Nat.le_of_ble_eq_true rfl) (by decide) rfl (cel_503 _ _ _) (fun _ e => t_X12_levels N  S83 _ e) (by decide) (fun v87 S86 hf => ?_)
        refine es_l (pc' := 56) (ls' := [(3, .int v87), (2, .int v84), (1, .int v78), (0, .ref (w.2.1 + 503))]) (st' := [.int 106, .ref (w.2.1 + 503)]) (fun _ _ k => e_istore_n (ls' := [(3, .int v87), (2, .int v84), (1, .int v78), (0, .ref (w.2.1 + 503))]) dX12_each_52 (by decide) rfl (e_aload_n dX12_each_53 3 rfl (e_bipush (v := 106) dX12_each_54 (by decide) k))) ?_
        refine es_callVV (as := [.int 106]) (rest := []) hf xc_12 dX12_each_56 cs_X12_each_X12_emit ml_X12_278 im_X12_emit se_X12_emit rfl rfl (Nat.le_of_ble_eq_true rfl) (Nat.le_of_ble_eq_true rfl) (by decide) rfl (cel_503 _ _ _) (fun _ e => t_X12_emit N 106 S86 _ e) (by decide) (fun S88 hf => ?_)
        refine es_l (pc' := 61) (ls' := [(3, .int v87), (2, .int v84), (1, .int v78), (0, .ref (w.2.1 + 503))]) (st' := [.int v87, .ref (w.2.1 + 503)]) (fun _ _ k => e_aload_n dX12_each_59 3 rfl (e_iload_n dX12_each_60 0 rfl k)) ?_
        refine es_callVV (as := [.int v87]) (rest := []) hf xc_12 dX12_each_61 cs_X12_each_X12_emit ml_X12_278 im_X12_emit se_X12_emit rfl rfl (Nat.le_of_ble_eq_true rfl) (Nat.le_of_ble_eq_true rfl) (by decide) rfl (cel_503 _ _ _) (fun _ e => t_X12_emit N v87 S88 _ e) (by decide) (fun S90 hf => ?_)
        refine es_l (pc' := 66) (ls' := [(3, .int v87), (2, .int v84), (1, .int v78), (0, .ref (w.2.1 + 503))]) (st' := [.int v78, .ref (w.2.1 + 503)]) (fun _ _ k => e_aload_n dX12_each_64 3 rfl (e_iload_n dX12_each_65 2 rfl k)) ?_
        refine es_callVV (as := [.int v78]) (rest := []) hf xc_12 dX12_each_66 cs_X12_each_X12_emit ml_X12_278 im_X12_emit se_X12_emit rfl rfl (Nat.le_of_ble_eq_true rfl) (Nat.le_of_ble_eq_true rfl) (by decide) rfl (cel_503 _ _ _) (fun _ e => t_X12_emit N v78 S90 _ e) (by decide) (fun S92 hf => ?_)
        refine es_l (pc' := 71) (ls' := [(3, .int v87), (2, .int v84), (1, .int v78), (0, .ref (w.2.1 + 503))]) (st' := [.int v84, .ref (w.2.1 + 503)]) (fun _ _ k => e_aload_n dX12_each_69 3 rfl (e_iload_n dX12_each_70 1 rfl k)) ?_
        refine es_callVV (as := [.int v84]) (rest := []) hf xc_12 dX12_each_71 cs_X12_each_X12_emit ml_X12_278 im_X12_emit se_X12_emit rfl rfl (Nat.le_of_ble_eq_true rfl) (Nat.le_of_ble_eq_true rfl) (by decide) rfl (cel_503 _ _ _) (fun _ e => t_X12_emit N v84 S92 _ e) (by decide) (fun S94 hf => ?_)
        refine es_l (pc' := 76) (ls' := [(3, .int v87), (2, .int v84), (1, .int v78), (0, .ref (w.2.1 + 503))]) (st' := [.int v78, .ref (w.2.1 + 503)]) (fun _ _ k => e_aload_n dX12_each_74 3 rfl (e_iload_n dX12_each_75 2 rfl k)) ?_
        refine es_callVI (as := [.int v78]) (rest := []) hf xc_12 dX12_each_76 cs_X12_each_X12_whereOf ml_X12_327 im_X12_whereOf se_X12_whereOf rfl rfl (Nat.le_of_ble_eq_true rfl) (Nat.le_of_ble_eq_true rfl) (by decide) rfl (cel_503 _ _ _) (fun _ e => t_X12_whereOf N v78 S94 _ e) (by decide) (fun v97 S96 hf => ?_)
        refine es_br (c := v97 = 0) (tgt := 82) (pf := 84) (st' := []) (fun _ _ a b => e_if_ne dX12_each_79 rfl b a) (fun c98 => ?_) (fun c98 => ?_)
        · rw [if_pos c98] at hf
          refine es_l (pc' := 83) (ls' := [(3, .int v87), (2, .int v84), (1, .int v78), (0, .ref (w.2.1 + 503))]) (st' := [.int 0]) (fun _ _ k => e_iconst (v := 0) dX12_each_82 (by decide) k) ?_
          exact es_ireturn (ty := .boolean) dX12_each_83 rfl rfl hf
        · rw [if_neg c98] at hf
          refine es_l (pc' := 85) (ls' := [(3, .int v87), (2, .int v84), (1, .int v78), (0, .ref (w.2.1 + 503))]) (st' := [.ref (w.2.1 + 503)]) (fun _ _ k => e_aload_n dX12_each_84 3 rfl k) ?_
          refine es_get (v := .int (S96.1 503 25)) xc_12 dX12_each_85 fl_X12_88 (by decide) (by decide) (cel_503 _ _ _) rfl ?_
          refine es_l (pc' := 93) (ls' := [(4, .int (S96.1 503 25)), (3, .int v87), (2, .int v84), (1, .int v78), (0, .ref (w.2.1 + 503))]) (st' := [.int 107, .ref (w.2.1 + 503)]) (fun _ _ k => e_istore (ls' := [(4, .int (S96.1 503 25)), (3, .int v87), (2, .int v84), (1, .int v78), (0, .ref (w.2.1 + 503))]) dX12_each_88 (by decide) rfl (e_aload_n dX12_each_90 4 rfl (e_bipush (v := 107) dX12_each_91 (by decide) k))) ?_
          refine es_callVV (as := [.int 107]) (rest := []) hf xc_12 dX12_each_93 cs_X12_each_X12_emit ml_X12_278 im_X12_emit se_X12_emit rfl rfl (Nat.le_of_ble_eq_true rfl) (Nat.le_of_ble_eq_true rfl) (by decide) rfl (cel_503 _ _ _) (fun _ e => t_X12_emit N 107 S96 _ e) (by decide) (fun S99 hf => ?_)
          refine es_l (pc' := 98) (ls' := [(4, .int (S96.1 503 25)), (3, .int v87), (2, .int v84), (1, .int v78), (0, .ref (w.2.1 + 503))]) (st' := [.int v87, .ref (w.2.1 + 503)]) (fun _ _ k => e_aload_n dX12_each_96 4 rfl (e_iload_n dX12_each_97 1 rfl k)) ?_
          refine es_callVV (as := [.int v87]) (rest := []) hf xc_12 dX12_each_98 cs_X12_each_X12_emit ml_X12_278 im_X12_emit se_X12_emit rfl rfl (Nat.le_of_ble_eq_true rfl) (Nat.le_of_ble_eq_true rfl) (by decide) rfl (cel_503 _ _ _) (fun _ e => t_X12_emit N v87 S99 _ e) (by decide) (fun S101 hf => ?_)
          refine es_l (pc' := 103) (ls' := [(4, .int (S96.1 503 25)), (3, .int v87), (2, .int v84), (1, .int v78), (0, .ref (w.2.1 + 503))]) (st' := [.int v78, .ref (w.2.1 + 503)]) (fun _ _ k => e_aload_n dX12_each_101 4 rfl (e_iload_n dX12_each_102 3 rfl k)) ?_
          refine es_callVV (as := [.int v78]) (rest := []) hf xc_12 dX12_each_103 cs_X12_each_X12_emit ml_X12_278 im_X12_emit se_X12_emit rfl rfl (Nat.le_of_ble_eq_true rfl) (Nat.le_of_ble_eq_true rfl) (by decide) rfl (cel_503 _ _ _) (fun _ e => t_X12_emit N v78 S101 _ e) (by decide) (fun S103 hf => ?_)
          refine es_l (pc' := 108) (ls' := [(4, .int (S96.1 503 25)), (3, .int v87), (2, .int v84), (1, .int v78), (0, .ref (w.2.1 + 503))]) (st' := [.int 0, .ref (w.2.1 + 503)]) (fun _ _ k => e_aload_n dX12_each_106 4 rfl (e_iconst (v := 0) dX12_each_107 (by decide) k)) ?_
          refine es_callVV (as := [.int 0]) (rest := []) hf xc_12 dX12_each_108 cs_X12_each_X12_emit ml_X12_278 im_X12_emit se_X12_emit rfl rfl (Nat.le_of_ble_eq_true rfl) (Nat.le_of_ble_eq_true rfl) (by decide) rfl (cel_503 _ _ _) (fun _ e => t_X12_emit N 0 S103 _ e) (by decide) (fun S105 hf => ?_)
          refine es_l (pc' := 114) (ls' := [(4, .int (S96.1 503 25)), (3, .int v87), (2, .int v84), (1, .int v78), (0, .ref (w.2.1 + 503))]) (st' := [.ref (w.2.1 + 503), .int 4, .ref (w.2.1 + 503)]) (fun _ _ k => e_aload_n dX12_each_111 4 rfl (e_iconst (v := 4) dX12_each_112 (by decide) (e_aload_n dX12_each_113 4 rfl k))) ?_
          refine es_get (v := .int (S105.1 503 25)) xc_12 dX12_each_114 fl_X12_88 (by decide) (by decide) (cel_503 _ _ _) rfl ?_
          refine es_l (pc' := 122) (ls' := [(4, .int (S96.1 503 25)), (3, .int v87), (2, .int v84), (1, .int v78), (0, .ref (w.2.1 + 503))]) (st' := [.int v78, .int (S96.1 503 25), .int ((S105.1 503 25) - 1), .int 4, .ref (w.2.1 + 503)]) (fun _ _ k => e_iconst (v := 1) dX12_each_117 (by decide) (e_isub dX12_each_118 (e_iload dX12_each_119 0 rfl (e_iload_n dX12_each_121 3 rfl k)))) ?_
          refine es_callVV (as := [.int 4, .int ((S105.1 503 25) - 1), .int (S96.1 503 25), .int v78]) (rest := []) hf xc_12 dX12_each_122 cs_X12_each_X12_block ml_X12_330 im_X12_block se_X12_block rfl rfl (Nat.le_of_ble_eq_true rfl) (Nat.le_of_ble_eq_true rfl) (by decide) rfl (cel_503 _ _ _) (fun _ e => t_X12_block N 4 ((S105.1 503 25) - 1) (S96.1 503 25) v78 S105 _ e) (by decide) (fun S107 hf => ?_)
          refine es_l (pc' := 126) (ls' := [(4, .int (S96.1 503 25)), (3, .int v87), (2, .int v84), (1, .int v78), (0, .ref (w.2.1 + 503))]) (st' := [.ref (w.2.1 + 503)]) (fun _ _ k => e_aload_n dX12_each_125 4 rfl k) ?_
          refine es_callVI (as := []) (rest := []) hf xc_12 dX12_each_126 cs_X12_each_X12_opens ml_X12_334 im_X12_opens se_X12_opens rfl rfl (Nat.le_of_ble_eq_true rfl) (Nat.le_of_ble_eq_true rfl) (by decide) rfl (cel_503 _ _ _) (fun _ e => t_X12_opens N  S107 _ e) (by decide) (fun v110 S109 hf => ?_)
          obtain ⟨g111, hf⟩ := xg hf
          exact es_ireturn (ty := .boolean) dX12_each_129 rfl (xbo_n g111) hf
      · rw [if_neg c85] at hf
        refine es_l (pc' := 47) (ls' := [(2, .int v84), (1, .int v78), (0, .ref (w.2.1 + 503))]) (st' := [.int 0]) (fun _ _ k => e_iconst (v := 0) dX12_each_46 (by decide) k) ?_
        exact es_ireturn (ty := .boolean) dX12_each_47 rfl rfl hf
def f_X12_condition_51 (N : Nat)  (x2 : Int32) (s0 : Int32) (S : xS) : Option xr :=
  xcV (f_X12_block N s0 ((S.1 503 25) - 1) x2 0 S) (fun S31 =>
  xcI (f_X12_opens N S31) (fun v34 S33 =>
  if xbo v34 then
  some (.inl (some (.inl v34)), S33)
  else none
  )
  )
set_option maxRecDepth 100000 in
set_option maxHeartbeats 4000000 in
theorem t_X12_condition_51 {l : Launch} {w : xW} {g : Nat → xE} (N : Nat)   (x2 : Int32) (s0 : Int32) (S : xS) (r : xr) (hf : f_X12_condition_51 N  x2 s0 S = some r) : ES l w g M_X12_condition 51 [(0, .ref (w.2.1 + 503)), (2, .int x2)] [.int s0, .ref (w.2.1 + 503)] S r := by
  unfold f_X12_condition_51 at hf
  refine es_l (pc' := 52) (ls' := [(0, .ref (w.2.1 + 503)), (2, .int x2)]) (st' := [.ref (w.2.1 + 503), .int s0, .ref (w.2.1 + 503)]) (fun _ _ k => e_aload_n dX12_condition_51 0 rfl k) ?_
  refine es_get (v := .int (S.1 503 25)) xc_12 dX12_condition_52 fl_X12_88 (by decide) (by decide) (cel_503 _ _ _) rfl ?_
  refine es_l (pc' := 59) (ls' := [(0, .ref (w.2.1 + 503)), (2, .int x2)]) (st' := [.int 0, .int x2, .int ((S.1 503 25) - 1), .int s0, .ref (w.2.1 + 503)]) (fun _ _ k => e_iconst (v := 1) dX12_condition_55 (by decide) (e_isub dX12_condition_56 (e_iload_n dX12_condition_57 1 rfl (e_iconst (v := 0) dX12_condition_58 (by decide) k)))) ?_
  refine es_callVV (as := [.int s0, .int ((S.1 503 25) - 1), .int x2, .int 0]) (rest := []) hf xc_12 dX12_condition_59 cs_X12_condition_X12_block ml_X12_330 im_X12_block se_X12_block rfl rfl (Nat.le_of_ble_eq_true rfl) (Nat.le_of_ble_eq_true rfl) (by decide) rfl (cel_503 _ _ _) (fun _ e => t_X12_block N s0 ((S.1 503 25) - 1) x2 0 S _ e) (by decide) (fun S31 hf => ?_)
  refine es_l (pc' := 63) (ls' := [(0, .ref (w.2.1 + 503)), (2, .int x2)]) (st' := [.ref (w.2.1 + 503)]) (fun _ _ k => e_aload_n dX12_condition_62 0 rfl k) ?_
  refine es_callVI (as := []) (rest := []) hf xc_12 dX12_condition_63 cs_X12_condition_X12_opens ml_X12_334 im_X12_opens se_X12_opens rfl rfl (Nat.le_of_ble_eq_true rfl) (Nat.le_of_ble_eq_true rfl) (by decide) rfl (cel_503 _ _ _) (fun _ e => t_X12_opens N  S31 _ e) (by decide) (fun v34 S33 hf => ?_)
  obtain ⟨g35, hf⟩ := xg hf
  exact es_ireturn (ty := .boolean) dX12_condition_66 rfl (xbo_n g35) hf
def f_X12_condition (N : Nat) (x1 : Int32) (S : xS) : Option xr :=
  xcV (f_X12_emit N 100 S) (fun S36 =>
  xcI (f_X12_inline N (sI S36 503 20 ((S36.1 503 20) + 1))) (fun v39 S38 =>
  if v39 = 0 then
    some (.inl (some (.inl 0)), S38)
  else
    xcV (f_X12_emit N 110 S38) (fun S41 =>
    xcV (f_X12_emit N 0 S41) (fun S43 =>
    if x1 = 0 then
      f_X12_condition_51 N (S.1 503 25) 1 S43
    else
      f_X12_condition_51 N (S.1 503 25) 3 S43
    )
    )
  )
  )
set_option maxRecDepth 100000 in
set_option maxHeartbeats 4000000 in
theorem t_X12_condition {l : Launch} {w : xW} {g : Nat → xE} (N : Nat) (x1 : Int32) (S : xS) (r : xr) (hf : f_X12_condition N x1 S = some r) : ES l w g M_X12_condition 0 (lv_args 0 [.ref (w.2.1 + 503), .int x1]) [] S r := by
  show ES l w g M_X12_condition 0 [(0, .ref (w.2.1 + 503)), (1, .int x1)] [] S r
  unfold f_X12_condition at hf
  refine es_l (pc' := 1) (ls' := [(0, .ref (w.2.1 + 503)), (1, .int x1)]) (st' := [.ref (w.2.1 + 503)]) (fun _ _ k => e_aload_n dX12_condition_0 0 rfl k) ?_
  refine es_get (v := .int (S.1 503 25)) xc_12 dX12_condition_1 fl_X12_88 (by decide) (by decide) (cel_503 _ _ _) rfl ?_
  refine es_l (pc' := 8) (ls' := [(2, .int (S.1 503 25)), (0, .ref (w.2.1 + 503)), (1, .int x1)]) (st' := [.int 100, .ref (w.2.1 + 503)]) (fun _ _ k => e_istore_n (ls' := [(2, .int (S.1 503 25)), (0, .ref (w.2.1 + 503)), (1, .int x1)]) dX12_condition_4 (by decide) rfl (e_aload_n dX12_condition_5 1 rfl (e_bipush (v := 100) dX12_condition_6 (by decide) k))) ?_
  refine es_callVV (as := [.int 100]) (rest := []) hf xc_12 dX12_condition_8 cs_X12_condition_X12_emit ml_X12_278 im_X12_emit se_X12_emit rfl rfl (Nat.le_of_ble_eq_true rfl) (Nat.le_of_ble_eq_true rfl) (by decide) rfl (cel_503 _ _ _) (fun _ e => t_X12_emit N 100 S _ e) (by decide) (fun S36 hf => ?_)
  refine es_l (pc' := 13) (ls' := [(2, .int (S.1 503 25)), (0, .ref (w.2.1 + 503)), (1, .int x1)]) (st' := [.ref (w.2.1 + 503), .ref (w.2.1 + 503)]) (fun _ _ k => e_aload_n dX12_condition_11 1 rfl (e_dup dX12_condition_12 rfl k)) ?_
  refine es_get (v := .int (S36.1 503 20)) xc_12 dX12_condition_13 fl_X12_72 (by decide) (by decide) (cel_503 _ _ _) rfl ?_
  refine es_l (pc' := 18) (ls' := [(2, .int (S.1 503 25)), (0, .ref (w.2.1 + 503)), (1, .int x1)]) (st' := [.int ((S36.1 503 20) + 1), .ref (w.2.1 + 503)]) (fun _ _ k => e_iconst (v := 1) dX12_condition_16 (by decide) (e_iadd dX12_condition_17 k)) ?_
  refine es_put xc_12 dX12_condition_18 fl_X12_72 (by decide) (by decide) (by decide) (cel_503 _ _ _) rfl rfl rfl rfl ?_
  refine es_l (pc' := 22) (ls' := [(2, .int (S.1 503 25)), (0, .ref (w.2.1 + 503)), (1, .int x1)]) (st' := [.ref (w.2.1 + 503)]) (fun _ _ k => e_aload_n dX12_condition_21 1 rfl k) ?_
  refine es_callVI (as := []) (rest := []) hf xc_12 dX12_condition_22 cs_X12_condition_X12_inline ml_X12_318 im_X12_inline se_X12_inline rfl rfl (Nat.le_of_ble_eq_true rfl) (Nat.le_of_ble_eq_true rfl) (by decide) rfl (cel_503 _ _ _) (fun _ e => t_X12_inline N  (sI S36 503 20 ((S36.1 503 20) + 1)) _ e) (by decide) (fun v39 S38 hf => ?_)
  refine es_br (c := v39 = 0) (tgt := 28) (pf := 30) (st' := []) (fun _ _ a b => e_if_ne dX12_condition_25 rfl b a) (fun c40 => ?_) (fun c40 => ?_)
  · rw [if_pos c40] at hf
    refine es_l (pc' := 29) (ls' := [(2, .int (S.1 503 25)), (0, .ref (w.2.1 + 503)), (1, .int x1)]) (st' := [.int 0]) (fun _ _ k => e_iconst (v := 0) dX12_condition_28 (by decide) k) ?_
    exact es_ireturn (ty := .boolean) dX12_condition_29 rfl rfl hf
  · rw [if_neg c40] at hf
    refine es_l (pc' := 33) (ls' := [(2, .int (S.1 503 25)), (0, .ref (w.2.1 + 503)), (1, .int x1)]) (st' := [.int 110, .ref (w.2.1 + 503)]) (fun _ _ k => e_aload_n dX12_condition_30 1 rfl (e_bipush (v := 110) dX12_condition_31 (by decide) k)) ?_
    refine es_callVV (as := [.int 110]) (rest := []) hf xc_12 dX12_condition_33 cs_X12_condition_X12_emit ml_X12_278 im_X12_emit se_X12_emit rfl rfl (Nat.le_of_ble_eq_true rfl) (Nat.le_of_ble_eq_true rfl) (by decide) rfl (cel_503 _ _ _) (fun _ e => t_X12_emit N 110 S38 _ e) (by decide) (fun S41 hf => ?_)
    refine es_l (pc' := 38) (ls' := [(2, .int (S.1 503 25)), (0, .ref (w.2.1 + 503)), (1, .int x1)]) (st' := [.int 0, .ref (w.2.1 + 503)]) (fun _ _ k => e_aload_n dX12_condition_36 1 rfl (e_iconst (v := 0) dX12_condition_37 (by decide) k)) ?_
    refine es_callVV (as := [.int 0]) (rest := []) hf xc_12 dX12_condition_38 cs_X12_condition_X12_emit ml_X12_278 im_X12_emit se_X12_emit rfl rfl (Nat.le_of_ble_eq_true rfl) (Nat.le_of_ble_eq_true rfl) (by decide) rfl (cel_503 _ _ _) (fun _ e => t_X12_emit N 0 S41 _ e) (by decide) (fun S43 hf => ?_)
    refine es_l (pc' := 43) (ls' := [(2, .int (S.1 503 25)), (0, .ref (w.2.1 + 503)), (1, .int x1)]) (st' := [.int x1, .ref (w.2.1 + 503)]) (fun _ _ k => e_aload_n dX12_condition_41 1 rfl (e_iload_n dX12_condition_42 2 rfl k)) ?_
    refine es_br (c := x1 = 0) (tgt := 50) (pf := 46) (st' := [.ref (w.2.1 + 503)]) (fun _ _ a b => e_if_eq dX12_condition_43 rfl a b) (fun c45 => ?_) (fun c45 => ?_)
    · rw [if_pos c45] at hf
      refine es_l (pc' := 51) (ls' := [(2, .int (S.1 503 25)), (0, .ref (w.2.1 + 503)), (1, .int x1)]) (st' := [.int 1, .ref (w.2.1 + 503)]) (fun _ _ k => e_iconst (v := 1) dX12_condition_50 (by decide) k) ?_
      refine es_sub [1, 0] rfl ?_
      exact t_X12_condition_51 N (S.1 503 25) 1 S43 r hf
    · rw [if_neg c45] at hf
      refine es_l (pc' := 51) (ls' := [(2, .int (S.1 503 25)), (0, .ref (w.2.1 + 503)), (1, .int x1)]) (st' := [.int 3, .ref (w.2.1 + 503)]) (fun _ _ k => e_iconst (v := 3) dX12_condition_46 (by decide) (e_goto (tgt := 51) dX12_condition_47 rfl k)) ?_
      refine es_sub [1, 0] rfl ?_
      exact t_X12_condition_51 N (S.1 503 25) 3 S43 r hf
def f_X12_ends_149 (N : Nat)  (x2 : Int32) (S : xS) : Option xr :=
  if xin x2 3000 then
  some (.inl (some (.inl 1)), sI S 518 x2.toNatClampNeg (S.1 503 25))
  else none
set_option maxRecDepth 100000 in
set_option maxHeartbeats 4000000 in
theorem t_X12_ends_149 {l : Launch} {w : xW} {g : Nat → xE} (N : Nat)   (x2 : Int32) (S : xS) (r : xr) (hf : f_X12_ends_149 N  x2 S = some r) : ES l w g M_X12_ends 149 [(0, .ref (w.2.1 + 503)), (2, .int x2)] [] S r := by
  unfold f_X12_ends_149 at hf
  refine es_l (pc' := 150) (ls' := [(0, .ref (w.2.1 + 503)), (2, .int x2)]) (st' := [.ref (w.2.1 + 503)]) (fun _ _ k => e_aload_n dX12_ends_149 0 rfl k) ?_
  refine es_get (v := .ref (w.2.1 + 518)) xc_12 dX12_ends_150 fl_X12_85 (by decide) (by decide) (cel_503 _ _ _) rfl ?_
  refine es_l (pc' := 155) (ls' := [(0, .ref (w.2.1 + 503)), (2, .int x2)]) (st' := [.ref (w.2.1 + 503), .int x2, .ref (w.2.1 + 518)]) (fun _ _ k => e_iload_n dX12_ends_153 1 rfl (e_aload_n dX12_ends_154 0 rfl k)) ?_
  refine es_get (v := .int (S.1 503 25)) xc_12 dX12_ends_155 fl_X12_88 (by decide) (by decide) (cel_503 _ _ _) rfl ?_
  obtain ⟨g53, hf⟩ := xg hf
  refine es_iast dX12_ends_158 (by decide) (cel_518 _) g53 ?_
  refine es_l (pc' := 160) (ls' := [(0, .ref (w.2.1 + 503)), (2, .int x2)]) (st' := [.int 1]) (fun _ _ k => e_iconst (v := 1) dX12_ends_159 (by decide) k) ?_
  exact es_ireturn (ty := .boolean) dX12_ends_160 rfl rfl hf
def f_X12_ends_86 (N : Nat)  (x1 : Int32) (x2 : Int32) (S : xS) : Option xr :=
  if x1 = 1 then
    xcI (f_X12_isWord N 10 S) (fun v56 S55 =>
    if v56 = 0 then
      f_X12_ends_149 N x2 S55
    else
      xcV (f_X12_emit N 111 (sI S55 503 20 ((S55.1 503 20) + 1))) (fun S58 =>
      xcV (f_X12_emit N 0 S58) (fun S60 =>
      if xin x2 3000 then
      xcV (f_X12_block N 2 ((S60.1 503 25) - 1) 0 0 (sI S60 518 x2.toNatClampNeg (S60.1 503 25))) (fun S63 =>
      xcI (f_X12_opens N S63) (fun v66 S65 =>
      if xbo v66 then
      some (.inl (some (.inl v66)), S65)
      else none
      )
      )
      else none
      )
      )
    )
  else
    f_X12_ends_149 N x2 S
set_option maxRecDepth 100000 in
set_option maxHeartbeats 4000000 in
theorem t_X12_ends_86 {l : Launch} {w : xW} {g : Nat → xE} (N : Nat)   (x1 : Int32) (x2 : Int32) (S : xS) (r : xr) (hf : f_X12_ends_86 N  x1 x2 S = some r) : ES l w g M_X12_ends 86 [(0, .ref (w.2.1 + 503)), (1, .int x1), (2, .int x2)] [] S r := by
  unfold f_X12_ends_86 at hf
  refine es_l (pc' := 88) (ls' := [(0, .ref (w.2.1 + 503)), (1, .int x1), (2, .int x2)]) (st' := [.int 1, .int x1]) (fun _ _ k => e_iload_n dX12_ends_86 1 rfl (e_iconst (v := 1) dX12_ends_87 (by decide) k)) ?_
  refine es_br (c := x1 = 1) (tgt := 91) (pf := 149) (st' := []) (fun _ _ a b => e_icmp_ne dX12_ends_88 rfl b a) (fun c54 => ?_) (fun c54 => ?_)
  · rw [if_pos c54] at hf
    refine es_l (pc' := 94) (ls' := [(0, .ref (w.2.1 + 503)), (1, .int x1), (2, .int x2)]) (st' := [.int 10, .ref (w.2.1 + 503)]) (fun _ _ k => e_aload_n dX12_ends_91 0 rfl (e_bipush (v := 10) dX12_ends_92 (by decide) k)) ?_
    refine es_callVI (as := [.int 10]) (rest := []) hf xc_12 dX12_ends_94 cs_X12_ends_X12_isWord ml_X12_239 im_X12_isWord se_X12_isWord rfl rfl (Nat.le_of_ble_eq_true rfl) (Nat.le_of_ble_eq_true rfl) (by decide) rfl (cel_503 _ _ _) (fun _ e => t_X12_isWord N 10 S _ e) (by decide) (fun v56 S55 hf => ?_)
    refine es_br (c := v56 = 0) (tgt := 149) (pf := 100) (st' := []) (fun _ _ a b => e_if_eq dX12_ends_97 rfl a b) (fun c57 => ?_) (fun c57 => ?_)
    · rw [if_pos c57] at hf
      refine es_sub [0, 2] rfl ?_
      exact t_X12_ends_149 N x2 S55 r hf
    · rw [if_neg c57] at hf
      refine es_l (pc' := 102) (ls' := [(0, .ref (w.2.1 + 503)), (1, .int x1), (2, .int x2)]) (st' := [.ref (w.2.1 + 503), .ref (w.2.1 + 503)]) (fun _ _ k => e_aload_n dX12_ends_100 0 rfl (e_dup dX12_ends_101 rfl k)) ?_
      refine es_get (v := .int (S55.1 503 20)) xc_12 dX12_ends_102 fl_X12_72 (by decide) (by decide) (cel_503 _ _ _) rfl ?_
      refine es_l (pc' := 107) (ls' := [(0, .ref (w.2.1 + 503)), (1, .int x1), (2, .int x2)]) (st' := [.int ((S55.1 503 20) + 1), .ref (w.2.1 + 503)]) (fun _ _ k => e_iconst (v := 1) dX12_ends_105 (by decide) (e_iadd dX12_ends_106 k)) ?_
      refine es_put xc_12 dX12_ends_107 fl_X12_72 (by decide) (by decide) (by decide) (cel_503 _ _ _) rfl rfl rfl rfl ?_
      refine es_l (pc' := 113) (ls' := [(0, .ref (w.2.1 + 503)), (1, .int x1), (2, .int x2)]) (st' := [.int 111, .ref (w.2.1 + 503)]) (fun _ _ k => e_aload_n dX12_ends_110 0 rfl (e_bipush (v := 111) dX12_ends_111 (by decide) k)) ?_
      refine es_callVV (as := [.int 111]) (rest := []) hf xc_12 dX12_ends_113 cs_X12_ends_X12_emit ml_X12_278 im_X12_emit se_X12_emit rfl rfl (Nat.le_of_ble_eq_true rfl) (Nat.le_of_ble_eq_true rfl) (by decide) rfl (cel_503 _ _ _) (fun _ e => t_X12_emit N 111 (sI S55 503 20 ((S55.1 503 20) + 1)) _ e) (by decide) (fun S58 hf => ?_)
      refine es_l (pc' := 118) (ls' := [(0, .ref (w.2.1 + 503)), (1, .int x1), (2, .int x2)]) (st' := [.int 0, .ref (w.2.1 + 503)]) (fun _ _ k => e_aload_n dX12_ends_116 0 rfl (e_iconst (v := 0) dX12_ends_117 (by decide) k)) ?_
      refine es_callVV (as := [.int 0]) (rest := []) hf xc_12 dX12_ends_118 cs_X12_ends_X12_emit ml_X12_278 im_X12_emit se_X12_emit rfl rfl (Nat.le_of_ble_eq_true rfl) (Nat.le_of_ble_eq_true rfl) (by decide) rfl (cel_503 _ _ _) (fun _ e => t_X12_emit N 0 S58 _ e) (by decide) (fun S60 hf => ?_)
      refine es_l (pc' := 122) (ls' := [(0, .ref (w.2.1 + 503)), (1, .int x1), (2, .int x2)]) (st' := [.ref (w.2.1 + 503)]) (fun _ _ k => e_aload_n dX12_ends_121 0 rfl k) ?_
      refine es_get (v := .ref (w.2.1 + 518)) xc_12 dX12_ends_122 fl_X12_85 (by decide) (by decide) (cel_503 _ _ _) rfl ?_
      refine es_l (pc' := 127) (ls' := [(0, .ref (w.2.1 + 503)), (1, .int x1), (2, .int x2)]) (st' := [.ref (w.2.1 + 503), .int x2, .ref (w.2.1 + 518)]) (fun _ _ k => e_iload_n dX12_ends_125 2 rfl (e_aload_n dX12_ends_126 0 rfl k)) ?_
      refine es_get (v := .int (S60.1 503 25)) xc_12 dX12_ends_127 fl_X12_88 (by decide) (by decide) (cel_503 _ _ _) rfl ?_
      obtain ⟨g62, hf⟩ := xg hf
      refine es_iast dX12_ends_130 (by decide) (cel_518 _) g62 ?_
      refine es_l (pc' := 134) (ls' := [(0, .ref (w.2.1 + 503)), (1, .int x1), (2, .int x2)]) (st' := [.ref (w.2.1 + 503), .int 2, .ref (w.2.1 + 503)]) (fun _ _ k => e_aload_n dX12_ends_131 0 rfl (e_iconst (v := 2) dX12_ends_132 (by decide) (e_aload_n dX12_ends_133 0 rfl k))) ?_
      refine es_get (v := .int (S60.1 503 25)) xc_12 dX12_ends_134 fl_X12_88 (by decide) (by decide) (cel_503 _ _ _) rfl ?_
      refine es_l (pc' := 141) (ls' := [(0, .ref (w.2.1 + 503)), (1, .int x1), (2, .int x2)]) (st' := [.int 0, .int 0, .int ((S60.1 503 25) - 1), .int 2, .ref (w.2.1 + 503)]) (fun _ _ k => e_iconst (v := 1) dX12_ends_137 (by decide) (e_isub dX12_ends_138 (e_iconst (v := 0) dX12_ends_139 (by decide) (e_iconst (v := 0) dX12_ends_140 (by decide) k)))) ?_
      refine es_callVV (as := [.int 2, .int ((S60.1 503 25) - 1), .int 0, .int 0]) (rest := []) hf xc_12 dX12_ends_141 cs_X12_ends_X12_block ml_X12_330 im_X12_block se_X12_block rfl rfl (Nat.le_of_ble_eq_true rfl) (Nat.le_of_ble_eq_true rfl) (by decide) rfl (cel_503 _ _ _) (fun _ e => t_X12_block N 2 ((S60.1 503 25) - 1) 0 0 (sI S60 518 x2.toNatClampNeg (S60.1 503 25)) _ e) (by decide) (fun S63 hf => ?_)
      refine es_l (pc' := 145) (ls' := [(0, .ref (w.2.1 + 503)), (1, .int x1), (2, .int x2)]) (st' := [.ref (w.2.1 + 503)]) (fun _ _ k => e_aload_n dX12_ends_144 0 rfl k) ?_
      refine es_callVI (as := []) (rest := []) hf xc_12 dX12_ends_145 cs_X12_ends_X12_opens ml_X12_334 im_X12_opens se_X12_opens rfl rfl (Nat.le_of_ble_eq_true rfl) (Nat.le_of_ble_eq_true rfl) (by decide) rfl (cel_503 _ _ _) (fun _ e => t_X12_opens N  S63 _ e) (by decide) (fun v66 S65 hf => ?_)
      obtain ⟨g67, hf⟩ := xg hf
      exact es_ireturn (ty := .boolean) dX12_ends_148 rfl (xbo_n g67) hf
  · rw [if_neg c54] at hf
    refine es_sub [0, 2] rfl ?_
    exact t_X12_ends_149 N x2 S r hf
def f_X12_ends (N : Nat)  (S : xS) : Option xr :=
  if (S.1 503 30) = 0 then
    xcI (f_X12_wrong N S) (fun v70 S69 =>
    if xbo v70 then
    some (.inl (some (.inl v70)), S69)
    else none
    )
  else
    if xin ((S.1 503 30) - 1) 12 then
    if (S.1 520 (((S.1 503 30) - 1).toNatClampNeg)) ≤ 2 then
      f_X12_ends_86 N (S.1 520 (((S.1 503 30) - 1).toNatClampNeg)) (S.1 521 (((S.1 503 30) - 1).toNatClampNeg)) (sI (sI (sI S 503 20 ((S.1 503 20) + 1)) 503 26 ((S.1 503 26) - 1)) 503 30 ((S.1 503 30) - 1))
    else
      xcV (f_X12_emit N 111 (sI (sI (sI S 503 20 ((S.1 503 20) + 1)) 503 26 ((S.1 503 26) - 1)) 503 30 ((S.1 503 30) - 1))) (fun S74 =>
      if xin (S74.1 503 30) 12 then
      xcV (f_X12_emit N (S74.1 522 ((S74.1 503 30).toNatClampNeg)) S74) (fun S77 =>
      f_X12_ends_86 N (S.1 520 (((S.1 503 30) - 1).toNatClampNeg)) (S.1 521 (((S.1 503 30) - 1).toNatClampNeg)) S77
      )
      else none
      )
    else none
set_option maxRecDepth 100000 in
set_option maxHeartbeats 4000000 in
theorem t_X12_ends {l : Launch} {w : xW} {g : Nat → xE} (N : Nat)  (S : xS) (r : xr) (hf : f_X12_ends N  S = some r) : ES l w g M_X12_ends 0 (lv_args 0 [.ref (w.2.1 + 503)]) [] S r := by
  show ES l w g M_X12_ends 0 [(0, .ref (w.2.1 + 503))] [] S r
  unfold f_X12_ends at hf
  refine es_l (pc' := 1) (ls' := [(0, .ref (w.2.1 + 503))]) (st' := [.ref (w.2.1 + 503)]) (fun _ _ k => e_aload_n dX12_ends_0 0 rfl k) ?_
  refine es_get (v := .int (S.1 503 30)) xc_12 dX12_ends_1 fl_X12_103 (by decide) (by decide) (cel_503 _ _ _) rfl ?_
  refine es_br (c := (S.1 503 30) = 0) (tgt := 7) (pf := 12) (st' := []) (fun _ _ a b => e_if_ne dX12_ends_4 rfl b a) (fun c68 => ?_) (fun c68 => ?_)
  · rw [if_pos c68] at hf
    refine es_l (pc' := 8) (ls' := [(0, .ref (w.2.1 + 503))]) (st' := [.ref (w.2.1 + 503)]) (fun _ _ k => e_aload_n dX12_ends_7 0 rfl k) ?_
    refine es_callVI (as := []) (rest := []) hf xc_12 dX12_ends_8 cs_X12_ends_X12_wrong ml_X12_235 im_X12_wrong se_X12_wrong rfl rfl (Nat.le_of_ble_eq_true rfl) (Nat.le_of_ble_eq_true rfl) (by decide) rfl (cel_503 _ _ _) (fun _ e => t_X12_wrong N  S _ e) (by decide) (fun v70 S69 hf => ?_)
    obtain ⟨g71, hf⟩ := xg hf
    exact es_ireturn (ty := .boolean) dX12_ends_11 rfl (xbo_n g71) hf
  · rw [if_neg c68] at hf
    refine es_l (pc' := 14) (ls' := [(0, .ref (w.2.1 + 503))]) (st' := [.ref (w.2.1 + 503), .ref (w.2.1 + 503)]) (fun _ _ k => e_aload_n dX12_ends_12 0 rfl (e_dup dX12_ends_13 rfl k)) ?_
    refine es_get (v := .int (S.1 503 20)) xc_12 dX12_ends_14 fl_X12_72 (by decide) (by decide) (cel_503 _ _ _) rfl ?_
    refine es_l (pc' := 19) (ls' := [(0, .ref (w.2.1 + 503))]) (st' := [.int ((S.1 503 20) + 1), .ref (w.2.1 + 503)]) (fun _ _ k => e_iconst (v := 1) dX12_ends_17 (by decide) (e_iadd dX12_ends_18 k)) ?_
    refine es_put xc_12 dX12_ends_19 fl_X12_72 (by decide) (by decide) (by decide) (cel_503 _ _ _) rfl rfl rfl rfl ?_
    refine es_l (pc' := 24) (ls' := [(0, .ref (w.2.1 + 503))]) (st' := [.ref (w.2.1 + 503), .ref (w.2.1 + 503)]) (fun _ _ k => e_aload_n dX12_ends_22 0 rfl (e_dup dX12_ends_23 rfl k)) ?_
    refine es_get (v := .int (S.1 503 26)) xc_12 dX12_ends_24 fl_X12_91 (by decide) (by decide) (cel_503 _ _ _) rfl ?_
    refine es_l (pc' := 29) (ls' := [(0, .ref (w.2.1 + 503))]) (st' := [.int ((S.1 503 26) - 1), .ref (w.2.1 + 503)]) (fun _ _ k => e_iconst (v := 1) dX12_ends_27 (by decide) (e_isub dX12_ends_28 k)) ?_
    refine es_put xc_12 dX12_ends_29 fl_X12_91 (by decide) (by decide) (by decide) (cel_503 _ _ _) rfl rfl rfl rfl ?_
    refine es_l (pc' := 34) (ls' := [(0, .ref (w.2.1 + 503))]) (st' := [.ref (w.2.1 + 503), .ref (w.2.1 + 503)]) (fun _ _ k => e_aload_n dX12_ends_32 0 rfl (e_dup dX12_ends_33 rfl k)) ?_
    refine es_get (v := .int (S.1 503 30)) xc_12 dX12_ends_34 fl_X12_103 (by decide) (by decide) (cel_503 _ _ _) rfl ?_
    refine es_l (pc' := 39) (ls' := [(0, .ref (w.2.1 + 503))]) (st' := [.int ((S.1 503 30) - 1), .ref (w.2.1 + 503)]) (fun _ _ k => e_iconst (v := 1) dX12_ends_37 (by decide) (e_isub dX12_ends_38 k)) ?_
    refine es_put xc_12 dX12_ends_39 fl_X12_103 (by decide) (by decide) (by decide) (cel_503 _ _ _) rfl rfl rfl rfl ?_
    refine es_l (pc' := 43) (ls' := [(0, .ref (w.2.1 + 503))]) (st' := [.ref (w.2.1 + 503)]) (fun _ _ k => e_aload_n dX12_ends_42 0 rfl k) ?_
    refine es_get (v := .ref (w.2.1 + 520)) xc_12 dX12_ends_43 fl_X12_106 (by decide) (by decide) (cel_503 _ _ _) rfl ?_
    refine es_l (pc' := 47) (ls' := [(0, .ref (w.2.1 + 503))]) (st' := [.ref (w.2.1 + 503), .ref (w.2.1 + 520)]) (fun _ _ k => e_aload_n dX12_ends_46 0 rfl k) ?_
    refine es_get (v := .int ((S.1 503 30) - 1)) xc_12 dX12_ends_47 fl_X12_103 (by decide) (by decide) (cel_503 _ _ _) rfl ?_
    obtain ⟨g72, hf⟩ := xg hf
    refine es_iald (v := .int (S.1 520 (((S.1 503 30) - 1).toNatClampNeg))) dX12_ends_50 (by decide) (cel_520 _ _ _) g72 rfl ?_
    refine es_l (pc' := 53) (ls' := [(1, .int (S.1 520 (((S.1 503 30) - 1).toNatClampNeg))), (0, .ref (w.2.1 + 503))]) (st' := [.ref (w.2.1 + 503)]) (fun _ _ k => e_istore_n (ls' := [(1, .int (S.1 520 (((S.1 503 30) - 1).toNatClampNeg))), (0, .ref (w.2.1 + 503))]) dX12_ends_51 (by decide) rfl (e_aload_n dX12_ends_52 1 rfl k)) ?_
    refine es_get (v := .ref (w.2.1 + 521)) xc_12 dX12_ends_53 fl_X12_109 (by decide) (by decide) (cel_503 _ _ _) rfl ?_
    refine es_l (pc' := 57) (ls' := [(1, .int (S.1 520 (((S.1 503 30) - 1).toNatClampNeg))), (0, .ref (w.2.1 + 503))]) (st' := [.ref (w.2.1 + 503), .ref (w.2.1 + 521)]) (fun _ _ k => e_aload_n dX12_ends_56 1 rfl k) ?_
    refine es_get (v := .int ((S.1 503 30) - 1)) xc_12 dX12_ends_57 fl_X12_103 (by decide) (by decide) (cel_503 _ _ _) rfl ?_
    refine es_iald (v := .int (S.1 521 (((S.1 503 30) - 1).toNatClampNeg))) dX12_ends_60 (by decide) (cel_521 _ _ _) g72 rfl ?_
    refine es_l (pc' := 64) (ls' := [(2, .int (S.1 521 (((S.1 503 30) - 1).toNatClampNeg))), (1, .int (S.1 520 (((S.1 503 30) - 1).toNatClampNeg))), (0, .ref (w.2.1 + 503))]) (st' := [.int 2, .int (S.1 520 (((S.1 503 30) - 1).toNatClampNeg))]) (fun _ _ k => e_istore_n (ls' := [(2, .int (S.1 521 (((S.1 503 30) - 1).toNatClampNeg))), (1, .int (S.1 520 (((S.1 503 30) - 1).toNatClampNeg))), (0, .ref (w.2.1 + 503))]) dX12_ends_61 (by decide) rfl (e_iload_n dX12_ends_62 1 rfl (e_iconst (v := 2) dX12_ends_63 (by decide) k))) ?_
    refine es_br (c := (S.1 520 (((S.1 503 30) - 1).toNatClampNeg)) ≤ 2) (tgt := 86) (pf := 67) (st' := []) (fun _ _ a b => e_icmp_le dX12_ends_64 rfl a b) (fun c73 => ?_) (fun c73 => ?_)
    · rw [if_pos c73] at hf
      refine es_sub [2, 1, 0] rfl ?_
      exact t_X12_ends_86 N (S.1 520 (((S.1 503 30) - 1).toNatClampNeg)) (S.1 521 (((S.1 503 30) - 1).toNatClampNeg)) (sI (sI (sI S 503 20 ((S.1 503 20) + 1)) 503 26 ((S.1 503 26) - 1)) 503 30 ((S.1 503 30) - 1)) r hf
    · rw [if_neg c73] at hf
      refine es_l (pc' := 70) (ls' := [(2, .int (S.1 521 (((S.1 503 30) - 1).toNatClampNeg))), (1, .int (S.1 520 (((S.1 503 30) - 1).toNatClampNeg))), (0, .ref (w.2.1 + 503))]) (st' := [.int 111, .ref (w.2.1 + 503)]) (fun _ _ k => e_aload_n dX12_ends_67 2 rfl (e_bipush (v := 111) dX12_ends_68 (by decide) k)) ?_
      refine es_callVV (as := [.int 111]) (rest := []) hf xc_12 dX12_ends_70 cs_X12_ends_X12_emit ml_X12_278 im_X12_emit se_X12_emit rfl rfl (Nat.le_of_ble_eq_true rfl) (Nat.le_of_ble_eq_true rfl) (by decide) rfl (cel_503 _ _ _) (fun _ e => t_X12_emit N 111 (sI (sI (sI S 503 20 ((S.1 503 20) + 1)) 503 26 ((S.1 503 26) - 1)) 503 30 ((S.1 503 30) - 1)) _ e) (by decide) (fun S74 hf => ?_)
      refine es_l (pc' := 75) (ls' := [(2, .int (S.1 521 (((S.1 503 30) - 1).toNatClampNeg))), (1, .int (S.1 520 (((S.1 503 30) - 1).toNatClampNeg))), (0, .ref (w.2.1 + 503))]) (st' := [.ref (w.2.1 + 503), .ref (w.2.1 + 503)]) (fun _ _ k => e_aload_n dX12_ends_73 2 rfl (e_aload_n dX12_ends_74 2 rfl k)) ?_
      refine es_get (v := .ref (w.2.1 + 522)) xc_12 dX12_ends_75 fl_X12_112 (by decide) (by decide) (cel_503 _ _ _) rfl ?_
      refine es_l (pc' := 79) (ls' := [(2, .int (S.1 521 (((S.1 503 30) - 1).toNatClampNeg))), (1, .int (S.1 520 (((S.1 503 30) - 1).toNatClampNeg))), (0, .ref (w.2.1 + 503))]) (st' := [.ref (w.2.1 + 503), .ref (w.2.1 + 522), .ref (w.2.1 + 503)]) (fun _ _ k => e_aload_n dX12_ends_78 2 rfl k) ?_
      refine es_get (v := .int (S74.1 503 30)) xc_12 dX12_ends_79 fl_X12_103 (by decide) (by decide) (cel_503 _ _ _) rfl ?_
      obtain ⟨g76, hf⟩ := xg hf
      refine es_iald (v := .int (S74.1 522 ((S74.1 503 30).toNatClampNeg))) dX12_ends_82 (by decide) (cel_522 _ _ _) g76 rfl ?_
      refine es_callVV (as := [.int (S74.1 522 ((S74.1 503 30).toNatClampNeg))]) (rest := []) hf xc_12 dX12_ends_83 cs_X12_ends_X12_emit ml_X12_278 im_X12_emit se_X12_emit rfl rfl (Nat.le_of_ble_eq_true rfl) (Nat.le_of_ble_eq_true rfl) (by decide) rfl (cel_503 _ _ _) (fun _ e => t_X12_emit N (S74.1 522 ((S74.1 503 30).toNatClampNeg)) S74 _ e) (by decide) (fun S77 hf => ?_)
      refine es_sub [2, 1, 0] rfl ?_
      exact t_X12_ends_86 N (S.1 520 (((S.1 503 30) - 1).toNatClampNeg)) (S.1 521 (((S.1 503 30) - 1).toNatClampNeg)) S77 r hf
def f_X12_cursor_150 (N : Nat)   (S : xS) : Option xr :=
  some (.inl (some (.inl 0)), S)
set_option maxRecDepth 100000 in
set_option maxHeartbeats 4000000 in
theorem t_X12_cursor_150 {l : Launch} {w : xW} {g : Nat → xE} (N : Nat)    (S : xS) (r : xr) (hf : f_X12_cursor_150 N   S = some r) : ES l w g M_X12_cursor 150 [] [] S r := by
  unfold f_X12_cursor_150 at hf
  refine es_l (pc' := 151) (ls' := []) (st' := [.int 0]) (fun _ _ k => e_iconst (v := 0) dX12_cursor_150 (by decide) k) ?_
  exact es_ireturn (ty := .boolean) dX12_cursor_151 rfl rfl hf
def f_X12_cursor_64 (N : Nat)  (x1 : Int32) (x2 : Int32) (s0 : Int32) (S : xS) : Option xr :=
  if 0 ≤ s0 then
    if x1 = 0 then
      xcI (f_X12_sign N 46 (sI S 503 20 ((S.1 503 20) + 1))) (fun v98 S97 =>
      if v98 = 0 then
        some (.inl (some (.inl 0)), S97)
      else
        xcI (f_X12_takeField N x2 S97) (fun v101 S100 =>
        if v101 < 0 then
          f_X12_cursor_150 N S100
        else
          xcI (f_X12_sign N 61 S100) (fun v104 S103 =>
          if v104 = 0 then
            f_X12_cursor_150 N S103
          else
            xcI (f_X12_inline N S103) (fun v107 S106 =>
            if v107 = 0 then
              f_X12_cursor_150 N S106
            else
              xcV (f_X12_emit N 108 S106) (fun S109 =>
              xcV (f_X12_emit N s0 S109) (fun S111 =>
              xcV (f_X12_emit N x2 S111) (fun S113 =>
              xcV (f_X12_emit N v101 S113) (fun S115 =>
              xcI (f_X12_sign N 59 S115) (fun v118 S117 =>
              if xbo v118 then
              some (.inl (some (.inl v118)), S117)
              else none
              )
              )
              )
              )
              )
            )
          )
        )
      )
    else
      xcV (f_X12_emit N 109 (sI S 503 20 ((S.1 503 20) + 1))) (fun S120 =>
      xcV (f_X12_emit N s0 S120) (fun S122 =>
      xcV (f_X12_emit N x2 S122) (fun S124 =>
      xcI (f_X12_sign N 59 S124) (fun v127 S126 =>
      if xbo v127 then
      some (.inl (some (.inl v127)), S126)
      else none
      )
      )
      )
      )
  else
    xcI (f_X12_wrong N S) (fun v130 S129 =>
    if xbo v130 then
    some (.inl (some (.inl v130)), S129)
    else none
    )
set_option maxRecDepth 100000 in
set_option maxHeartbeats 4000000 in
theorem t_X12_cursor_64 {l : Launch} {w : xW} {g : Nat → xE} (N : Nat)   (x1 : Int32) (x2 : Int32) (s0 : Int32) (S : xS) (r : xr) (hf : f_X12_cursor_64 N  x1 x2 s0 S = some r) : ES l w g M_X12_cursor 64 [(0, .ref (w.2.1 + 503)), (1, .int x1), (2, .int x2)] [.int s0] S r := by
  unfold f_X12_cursor_64 at hf
  refine es_l (pc' := 66) (ls' := [(3, .int s0), (0, .ref (w.2.1 + 503)), (1, .int x1), (2, .int x2)]) (st' := [.int s0]) (fun _ _ k => e_istore_n (ls' := [(3, .int s0), (0, .ref (w.2.1 + 503)), (1, .int x1), (2, .int x2)]) dX12_cursor_64 (by decide) rfl (e_iload_n dX12_cursor_65 0 rfl k)) ?_
  refine es_br (c := 0 ≤ s0) (tgt := 74) (pf := 69) (st' := []) (fun _ _ a b => e_if_ge dX12_cursor_66 rfl a b) (fun c95 => ?_) (fun c95 => ?_)
  · rw [if_pos c95] at hf
    refine es_l (pc' := 76) (ls' := [(3, .int s0), (0, .ref (w.2.1 + 503)), (1, .int x1), (2, .int x2)]) (st' := [.ref (w.2.1 + 503), .ref (w.2.1 + 503)]) (fun _ _ k => e_aload_n dX12_cursor_74 1 rfl (e_dup dX12_cursor_75 rfl k)) ?_
    refine es_get (v := .int (S.1 503 20)) xc_12 dX12_cursor_76 fl_X12_72 (by decide) (by decide) (cel_503 _ _ _) rfl ?_
    refine es_l (pc' := 81) (ls' := [(3, .int s0), (0, .ref (w.2.1 + 503)), (1, .int x1), (2, .int x2)]) (st' := [.int ((S.1 503 20) + 1), .ref (w.2.1 + 503)]) (fun _ _ k => e_iconst (v := 1) dX12_cursor_79 (by decide) (e_iadd dX12_cursor_80 k)) ?_
    refine es_put xc_12 dX12_cursor_81 fl_X12_72 (by decide) (by decide) (by decide) (cel_503 _ _ _) rfl rfl rfl rfl ?_
    refine es_l (pc' := 85) (ls' := [(3, .int s0), (0, .ref (w.2.1 + 503)), (1, .int x1), (2, .int x2)]) (st' := [.int x1]) (fun _ _ k => e_iload_n dX12_cursor_84 2 rfl k) ?_
    refine es_br (c := x1 = 0) (tgt := 111) (pf := 88) (st' := []) (fun _ _ a b => e_if_eq dX12_cursor_85 rfl a b) (fun c96 => ?_) (fun c96 => ?_)
    · rw [if_pos c96] at hf
      refine es_l (pc' := 114) (ls' := [(3, .int s0), (0, .ref (w.2.1 + 503)), (1, .int x1), (2, .int x2)]) (st' := [.int 46, .ref (w.2.1 + 503)]) (fun _ _ k => e_aload_n dX12_cursor_111 1 rfl (e_bipush (v := 46) dX12_cursor_112 (by decide) k)) ?_
      refine es_callVI (as := [.int 46]) (rest := []) hf xc_12 dX12_cursor_114 cs_X12_cursor_X12_sign ml_X12_299 im_X12_sign se_X12_sign rfl rfl (Nat.le_of_ble_eq_true rfl) (Nat.le_of_ble_eq_true rfl) (by decide) rfl (cel_503 _ _ _) (fun _ e => t_X12_sign N 46 (sI S 503 20 ((S.1 503 20) + 1)) _ e) (by decide) (fun v98 S97 hf => ?_)
      refine es_br (c := v98 = 0) (tgt := 120) (pf := 122) (st' := []) (fun _ _ a b => e_if_ne dX12_cursor_117 rfl b a) (fun c99 => ?_) (fun c99 => ?_)
      · rw [if_pos c99] at hf
        refine es_l (pc' := 121) (ls' := [(3, .int s0), (0, .ref (w.2.1 + 503)), (1, .int x1), (2, .int x2)]) (st' := [.int 0]) (fun _ _ k => e_iconst (v := 0) dX12_cursor_120 (by decide) k) ?_
        exact es_ireturn (ty := .boolean) dX12_cursor_121 rfl rfl hf
      · rw [if_neg c99] at hf
        refine es_l (pc' := 124) (ls' := [(3, .int s0), (0, .ref (w.2.1 + 503)), (1, .int x1), (2, .int x2)]) (st' := [.int x2, .ref (w.2.1 + 503)]) (fun _ _ k => e_aload_n dX12_cursor_122 1 rfl (e_iload_n dX12_cursor_123 3 rfl k)) ?_
        refine es_callVI (as := [.int x2]) (rest := []) hf xc_12 dX12_cursor_124 cs_X12_cursor_X12_takeField ml_X12_302 im_X12_takeField se_X12_takeField rfl rfl (Nat.le_of_ble_eq_true rfl) (Nat.le_of_ble_eq_true rfl) (by decide) rfl (cel_503 _ _ _) (fun _ e => t_X12_takeField N x2 S97 _ e) (by decide) (fun v101 S100 hf => ?_)
        refine es_l (pc' := 131) (ls' := [(4, .int v101), (3, .int s0), (0, .ref (w.2.1 + 503)), (1, .int x1), (2, .int x2)]) (st' := [.int v101]) (fun _ _ k => e_istore (ls' := [(4, .int v101), (3, .int s0), (0, .ref (w.2.1 + 503)), (1, .int x1), (2, .int x2)]) dX12_cursor_127 (by decide) rfl (e_iload dX12_cursor_129 0 rfl k)) ?_
        refine es_br (c := v101 < 0) (tgt := 150) (pf := 134) (st' := []) (fun _ _ a b => e_if_lt dX12_cursor_131 rfl a b) (fun c102 => ?_) (fun c102 => ?_)
        · rw [if_pos c102] at hf
          refine es_sub [] rfl ?_
          exact t_X12_cursor_150 N S100 r hf
        · rw [if_neg c102] at hf
          refine es_l (pc' := 137) (ls' := [(4, .int v101), (3, .int s0), (0, .ref (w.2.1 + 503)), (1, .int x1), (2, .int x2)]) (st' := [.int 61, .ref (w.2.1 + 503)]) (fun _ _ k => e_aload_n dX12_cursor_134 2 rfl (e_bipush (v := 61) dX12_cursor_135 (by decide) k)) ?_
          refine es_callVI (as := [.int 61]) (rest := []) hf xc_12 dX12_cursor_137 cs_X12_cursor_X12_sign ml_X12_299 im_X12_sign se_X12_sign rfl rfl (Nat.le_of_ble_eq_true rfl) (Nat.le_of_ble_eq_true rfl) (by decide) rfl (cel_503 _ _ _) (fun _ e => t_X12_sign N 61 S100 _ e) (by decide) (fun v104 S103 hf => ?_)
          refine es_br (c := v104 = 0) (tgt := 150) (pf := 143) (st' := []) (fun _ _ a b => e_if_eq dX12_cursor_140 rfl a b) (fun c105 => ?_) (fun c105 => ?_)
          · rw [if_pos c105] at hf
            refine es_sub [] rfl ?_
            exact t_X12_cursor_150 N S103 r hf
          · rw [if_neg c105] at hf
            refine es_l (pc' := 144) (ls' := [(4, .int v101), (3, .int s0), (0, .ref (w.2.1 + 503)), (1, .int x1), (2, .int x2)]) (st' := [.ref (w.2.1 + 503)]) (fun _ _ k => e_aload_n dX12_cursor_143 2 rfl k) ?_
            refine es_callVI (as := []) (rest := []) hf xc_12 dX12_cursor_144 cs_X12_cursor_X12_inline ml_X12_318 im_X12_inline se_X12_inline rfl rfl (Nat.le_of_ble_eq_true rfl) (Nat.le_of_ble_eq_true rfl) (by decide) rfl (cel_503 _ _ _) (fun _ e => t_X12_inline N  S103 _ e) (by decide) (fun v107 S106 hf => ?_)
            refine es_br (c := v107 = 0) (tgt := 150) (pf := 152) (st' := []) (fun _ _ a b => e_if_ne dX12_cursor_147 rfl b a) (fun c108 => ?_) (fun c108 => ?_)
            · rw [if_pos c108] at hf
              refine es_sub [] rfl ?_
              exact t_X12_cursor_150 N S106 r hf
            · rw [if_neg c108] at hf
              refine es_l (pc' := 155) (ls' := [(4, .int v101), (3, .int s0), (0, .ref (w.2.1 + 503)), (1, .int x1), (2, .int x2)]) (st' := [.int 108, .ref (w.2.1 + 503)]) (fun _ _ k => e_aload_n dX12_cursor_152 2 rfl (e_bipush (v := 108) dX12_cursor_153 (by decide) k)) ?_
              refine es_callVV (as := [.int 108]) (rest := []) hf xc_12 dX12_cursor_155 cs_X12_cursor_X12_emit ml_X12_278 im_X12_emit se_X12_emit rfl rfl (Nat.le_of_ble_eq_true rfl) (Nat.le_of_ble_eq_true rfl) (by decide) rfl (cel_503 _ _ _) (fun _ e => t_X12_emit N 108 S106 _ e) (by decide) (fun S109 hf => ?_)
              refine es_l (pc' := 160) (ls' := [(4, .int v101), (3, .int s0), (0, .ref (w.2.1 + 503)), (1, .int x1), (2, .int x2)]) (st' := [.int s0, .ref (w.2.1 + 503)]) (fun _ _ k => e_aload_n dX12_cursor_158 2 rfl (e_iload_n dX12_cursor_159 1 rfl k)) ?_
              refine es_callVV (as := [.int s0]) (rest := []) hf xc_12 dX12_cursor_160 cs_X12_cursor_X12_emit ml_X12_278 im_X12_emit se_X12_emit rfl rfl (Nat.le_of_ble_eq_true rfl) (Nat.le_of_ble_eq_true rfl) (by decide) rfl (cel_503 _ _ _) (fun _ e => t_X12_emit N s0 S109 _ e) (by decide) (fun S111 hf => ?_)
              refine es_l (pc' := 165) (ls' := [(4, .int v101), (3, .int s0), (0, .ref (w.2.1 + 503)), (1, .int x1), (2, .int x2)]) (st' := [.int x2, .ref (w.2.1 + 503)]) (fun _ _ k => e_aload_n dX12_cursor_163 2 rfl (e_iload_n dX12_cursor_164 4 rfl k)) ?_
              refine es_callVV (as := [.int x2]) (rest := []) hf xc_12 dX12_cursor_165 cs_X12_cursor_X12_emit ml_X12_278 im_X12_emit se_X12_emit rfl rfl (Nat.le_of_ble_eq_true rfl) (Nat.le_of_ble_eq_true rfl) (by decide) rfl (cel_503 _ _ _) (fun _ e => t_X12_emit N x2 S111 _ e) (by decide) (fun S113 hf => ?_)
              refine es_l (pc' := 171) (ls' := [(4, .int v101), (3, .int s0), (0, .ref (w.2.1 + 503)), (1, .int x1), (2, .int x2)]) (st' := [.int v101, .ref (w.2.1 + 503)]) (fun _ _ k => e_aload_n dX12_cursor_168 2 rfl (e_iload dX12_cursor_169 0 rfl k)) ?_
              refine es_callVV (as := [.int v101]) (rest := []) hf xc_12 dX12_cursor_171 cs_X12_cursor_X12_emit ml_X12_278 im_X12_emit se_X12_emit rfl rfl (Nat.le_of_ble_eq_true rfl) (Nat.le_of_ble_eq_true rfl) (by decide) rfl (cel_503 _ _ _) (fun _ e => t_X12_emit N v101 S113 _ e) (by decide) (fun S115 hf => ?_)
              refine es_l (pc' := 177) (ls' := [(4, .int v101), (3, .int s0), (0, .ref (w.2.1 + 503)), (1, .int x1), (2, .int x2)]) (st' := [.int 59, .ref (w.2.1 + 503)]) (fun _ _ k => e_aload_n dX12_cursor_174 2 rfl (e_bipush (v := 59) dX12_cursor_175 (by decide) k)) ?_
              refine es_callVI (as := [.int 59]) (rest := []) hf xc_12 dX12_cursor_177 cs_X12_cursor_X12_sign ml_X12_299 im_X12_sign se_X12_sign rfl rfl (Nat.le_of_ble_eq_true rfl) (Nat.le_of_ble_eq_true rfl) (by decide) rfl (cel_503 _ _ _) (fun _ e => t_X12_sign N 59 S115 _ e) (by decide) (fun v118 S117 hf => ?_)
              obtain ⟨g119, hf⟩ := xg hf
              exact es_ireturn (ty := .boolean) dX12_cursor_180 rfl (xbo_n g119) hf
    · rw [if_neg c96] at hf
      refine es_l (pc' := 91) (ls' := [(3, .int s0), (0, .ref (w.2.1 + 503)), (1, .int x1), (2, .int x2)]) (st' := [.int 109, .ref (w.2.1 + 503)]) (fun _ _ k => e_aload_n dX12_cursor_88 1 rfl (e_bipush (v := 109) dX12_cursor_89 (by decide) k)) ?_
      refine es_callVV (as := [.int 109]) (rest := []) hf xc_12 dX12_cursor_91 cs_X12_cursor_X12_emit ml_X12_278 im_X12_emit se_X12_emit rfl rfl (Nat.le_of_ble_eq_true rfl) (Nat.le_of_ble_eq_true rfl) (by decide) rfl (cel_503 _ _ _) (fun _ e => t_X12_emit N 109 (sI S 503 20 ((S.1 503 20) + 1)) _ e) (by decide) (fun S120 hf => ?_)
      refine es_l (pc' := 96) (ls' := [(3, .int s0), (0, .ref (w.2.1 + 503)), (1, .int x1), (2, .int x2)]) (st' := [.int s0, .ref (w.2.1 + 503)]) (fun _ _ k => e_aload_n dX12_cursor_94 1 rfl (e_iload_n dX12_cursor_95 0 rfl k)) ?_
      refine es_callVV (as := [.int s0]) (rest := []) hf xc_12 dX12_cursor_96 cs_X12_cursor_X12_emit ml_X12_278 im_X12_emit se_X12_emit rfl rfl (Nat.le_of_ble_eq_true rfl) (Nat.le_of_ble_eq_true rfl) (by decide) rfl (cel_503 _ _ _) (fun _ e => t_X12_emit N s0 S120 _ e) (by decide) (fun S122 hf => ?_)
      refine es_l (pc' := 101) (ls' := [(3, .int s0), (0, .ref (w.2.1 + 503)), (1, .int x1), (2, .int x2)]) (st' := [.int x2, .ref (w.2.1 + 503)]) (fun _ _ k => e_aload_n dX12_cursor_99 1 rfl (e_iload_n dX12_cursor_100 3 rfl k)) ?_
      refine es_callVV (as := [.int x2]) (rest := []) hf xc_12 dX12_cursor_101 cs_X12_cursor_X12_emit ml_X12_278 im_X12_emit se_X12_emit rfl rfl (Nat.le_of_ble_eq_true rfl) (Nat.le_of_ble_eq_true rfl) (by decide) rfl (cel_503 _ _ _) (fun _ e => t_X12_emit N x2 S122 _ e) (by decide) (fun S124 hf => ?_)
      refine es_l (pc' := 107) (ls' := [(3, .int s0), (0, .ref (w.2.1 + 503)), (1, .int x1), (2, .int x2)]) (st' := [.int 59, .ref (w.2.1 + 503)]) (fun _ _ k => e_aload_n dX12_cursor_104 1 rfl (e_bipush (v := 59) dX12_cursor_105 (by decide) k)) ?_
      refine es_callVI (as := [.int 59]) (rest := []) hf xc_12 dX12_cursor_107 cs_X12_cursor_X12_sign ml_X12_299 im_X12_sign se_X12_sign rfl rfl (Nat.le_of_ble_eq_true rfl) (Nat.le_of_ble_eq_true rfl) (by decide) rfl (cel_503 _ _ _) (fun _ e => t_X12_sign N 59 S124 _ e) (by decide) (fun v127 S126 hf => ?_)
      obtain ⟨g128, hf⟩ := xg hf
      exact es_ireturn (ty := .boolean) dX12_cursor_110 rfl (xbo_n g128) hf
  · rw [if_neg c95] at hf
    refine es_l (pc' := 70) (ls' := [(3, .int s0), (0, .ref (w.2.1 + 503)), (1, .int x1), (2, .int x2)]) (st' := [.ref (w.2.1 + 503)]) (fun _ _ k => e_aload_n dX12_cursor_69 1 rfl k) ?_
    refine es_callVI (as := []) (rest := []) hf xc_12 dX12_cursor_70 cs_X12_cursor_X12_wrong ml_X12_235 im_X12_wrong se_X12_wrong rfl rfl (Nat.le_of_ble_eq_true rfl) (Nat.le_of_ble_eq_true rfl) (by decide) rfl (cel_503 _ _ _) (fun _ e => t_X12_wrong N  S _ e) (by decide) (fun v130 S129 hf => ?_)
    obtain ⟨g131, hf⟩ := xg hf
    exact es_ireturn (ty := .boolean) dX12_cursor_73 rfl (xbo_n g131) hf
def f_X12_cursor_50 (N : Nat)  (x1 : Int32) (s0 : Int32) (S : xS) : Option xr :=
  if 0 ≤ s0 then
    xcI (f_X12_levelOf N s0 S) (fun v134 S133 =>
    f_X12_cursor_64 N x1 s0 v134 S133
    )
  else
    f_X12_cursor_64 N x1 s0 ((-1)) S
set_option maxRecDepth 100000 in
set_option maxHeartbeats 4000000 in
theorem t_X12_cursor_50 {l : Launch} {w : xW} {g : Nat → xE} (N : Nat)   (x1 : Int32) (s0 : Int32) (S : xS) (r : xr) (hf : f_X12_cursor_50 N  x1 s0 S = some r) : ES l w g M_X12_cursor 50 [(0, .ref (w.2.1 + 503)), (1, .int x1)] [.int s0] S r := by
  unfold f_X12_cursor_50 at hf
  refine es_l (pc' := 52) (ls' := [(2, .int s0), (0, .ref (w.2.1 + 503)), (1, .int x1)]) (st' := [.int s0]) (fun _ _ k => e_istore_n (ls' := [(2, .int s0), (0, .ref (w.2.1 + 503)), (1, .int x1)]) dX12_cursor_50 (by decide) rfl (e_iload_n dX12_cursor_51 0 rfl k)) ?_
  refine es_br (c := 0 ≤ s0) (tgt := 59) (pf := 55) (st' := []) (fun _ _ a b => e_if_ge dX12_cursor_52 rfl a b) (fun c132 => ?_) (fun c132 => ?_)
  · rw [if_pos c132] at hf
    refine es_l (pc' := 61) (ls' := [(2, .int s0), (0, .ref (w.2.1 + 503)), (1, .int x1)]) (st' := [.int s0, .ref (w.2.1 + 503)]) (fun _ _ k => e_aload_n dX12_cursor_59 1 rfl (e_iload_n dX12_cursor_60 0 rfl k)) ?_
    refine es_callVI (as := [.int s0]) (rest := []) hf xc_12 dX12_cursor_61 cs_X12_cursor_X12_levelOf ml_X12_296 im_X12_levelOf se_X12_levelOf rfl rfl (Nat.le_of_ble_eq_true rfl) (Nat.le_of_ble_eq_true rfl) (by decide) rfl (cel_503 _ _ _) (fun _ e => t_X12_levelOf N s0 S _ e) (by decide) (fun v134 S133 hf => ?_)
    refine es_sub [1, 2, 0] rfl ?_
    exact t_X12_cursor_64 N x1 s0 v134 S133 r hf
  · rw [if_neg c132] at hf
    refine es_l (pc' := 64) (ls' := [(2, .int s0), (0, .ref (w.2.1 + 503)), (1, .int x1)]) (st' := [.int ((-1))]) (fun _ _ k => e_iconst (v := (-1)) dX12_cursor_55 (by decide) (e_goto (tgt := 64) dX12_cursor_56 rfl k)) ?_
    refine es_sub [1, 2, 0] rfl ?_
    exact t_X12_cursor_64 N x1 s0 ((-1)) S r hf
def f_X12_cursor_20 (N : Nat)  (x1 : Int32) (S : xS) : Option xr :=
  if xin (S.1 503 20) 152 then
  if (S.1 514 ((S.1 503 20).toNatClampNeg)) = 1 then
    xcI (f_X12_kindOf N (S.2.1 516 ((S.1 503 20).toNatClampNeg)) S) (fun v138 S137 =>
    f_X12_cursor_50 N x1 v138 S137
    )
  else
    f_X12_cursor_50 N x1 ((-1)) S
  else none
set_option maxRecDepth 100000 in
set_option maxHeartbeats 4000000 in
theorem t_X12_cursor_20 {l : Launch} {w : xW} {g : Nat → xE} (N : Nat)   (x1 : Int32) (S : xS) (r : xr) (hf : f_X12_cursor_20 N  x1 S = some r) : ES l w g M_X12_cursor 20 [(0, .ref (w.2.1 + 503)), (1, .int x1)] [] S r := by
  unfold f_X12_cursor_20 at hf
  refine es_l (pc' := 21) (ls' := [(0, .ref (w.2.1 + 503)), (1, .int x1)]) (st' := [.ref (w.2.1 + 503)]) (fun _ _ k => e_aload_n dX12_cursor_20 0 rfl k) ?_
  refine es_get (v := .ref (w.2.1 + 514)) xc_12 dX12_cursor_21 fl_X12_57 (by decide) (by decide) (cel_503 _ _ _) rfl ?_
  refine es_l (pc' := 25) (ls' := [(0, .ref (w.2.1 + 503)), (1, .int x1)]) (st' := [.ref (w.2.1 + 503), .ref (w.2.1 + 514)]) (fun _ _ k => e_aload_n dX12_cursor_24 0 rfl k) ?_
  refine es_get (v := .int (S.1 503 20)) xc_12 dX12_cursor_25 fl_X12_72 (by decide) (by decide) (cel_503 _ _ _) rfl ?_
  obtain ⟨g135, hf⟩ := xg hf
  refine es_iald (v := .int (S.1 514 ((S.1 503 20).toNatClampNeg))) dX12_cursor_28 (by decide) (cel_514 _ _ _) g135 rfl ?_
  refine es_l (pc' := 30) (ls' := [(0, .ref (w.2.1 + 503)), (1, .int x1)]) (st' := [.int 1, .int (S.1 514 ((S.1 503 20).toNatClampNeg))]) (fun _ _ k => e_iconst (v := 1) dX12_cursor_29 (by decide) k) ?_
  refine es_br (c := (S.1 514 ((S.1 503 20).toNatClampNeg)) = 1) (tgt := 33) (pf := 49) (st' := []) (fun _ _ a b => e_icmp_ne dX12_cursor_30 rfl b a) (fun c136 => ?_) (fun c136 => ?_)
  · rw [if_pos c136] at hf
    refine es_l (pc' := 35) (ls' := [(0, .ref (w.2.1 + 503)), (1, .int x1)]) (st' := [.ref (w.2.1 + 503), .ref (w.2.1 + 503)]) (fun _ _ k => e_aload_n dX12_cursor_33 0 rfl (e_aload_n dX12_cursor_34 0 rfl k)) ?_
    refine es_get (v := .ref (w.2.1 + 516)) xc_12 dX12_cursor_35 fl_X12_63 (by decide) (by decide) (cel_503 _ _ _) rfl ?_
    refine es_l (pc' := 39) (ls' := [(0, .ref (w.2.1 + 503)), (1, .int x1)]) (st' := [.ref (w.2.1 + 503), .ref (w.2.1 + 516), .ref (w.2.1 + 503)]) (fun _ _ k => e_aload_n dX12_cursor_38 0 rfl k) ?_
    refine es_get (v := .int (S.1 503 20)) xc_12 dX12_cursor_39 fl_X12_72 (by decide) (by decide) (cel_503 _ _ _) rfl ?_
    refine es_lald (v := .long (S.2.1 516 ((S.1 503 20).toNatClampNeg))) dX12_cursor_42 (by decide) (cel_516 _ _ _) g135 rfl ?_
    refine es_callVI (as := [.long (S.2.1 516 ((S.1 503 20).toNatClampNeg))]) (rest := []) hf xc_12 dX12_cursor_43 cs_X12_cursor_X12_kindOf ml_X12_242 im_X12_kindOf se_X12_kindOf rfl rfl (Nat.le_of_ble_eq_true rfl) (Nat.le_of_ble_eq_true rfl) (by decide) rfl (cel_503 _ _ _) (fun _ e => t_X12_kindOf N (S.2.1 516 ((S.1 503 20).toNatClampNeg)) S _ e) (by decide) (fun v138 S137 hf => ?_)
    refine es_l (pc' := 50) (ls' := [(0, .ref (w.2.1 + 503)), (1, .int x1)]) (st' := [.int v138]) (fun _ _ k => e_goto (tgt := 50) dX12_cursor_46 rfl k) ?_
    exact t_X12_cursor_50 N x1 v138 S137 r hf
  · rw [if_neg c136] at hf
    refine es_l (pc' := 50) (ls' := [(0, .ref (w.2.1 + 503)), (1, .int x1)]) (st' := [.int ((-1))]) (fun _ _ k => e_iconst (v := (-1)) dX12_cursor_49 (by decide) k) ?_
    exact t_X12_cursor_50 N x1 ((-1)) S r hf
def f_X12_cursor (N : Nat) (x1 : Int32) (S : xS) : Option xr :=
  xcV (f_X12_emit N 100 S) (fun S139 =>
  if x1 = 0 then
    f_X12_cursor_20 N x1 S139
  else
    f_X12_cursor_20 N x1 (sI S139 503 20 ((S139.1 503 20) + 1))
  )
set_option maxRecDepth 100000 in
set_option maxHeartbeats 4000000 in
theorem t_X12_cursor {l : Launch} {w : xW} {g : Nat → xE} (N : Nat) (x1 : Int32) (S : xS) (r : xr) (hf : f_X12_cursor N x1 S = some r) : ES l w g M_X12_cursor 0 (lv_args 0 [.ref (w.2.1 + 503), .int x1]) [] S r := by
  show ES l w g M_X12_cursor 0 [(0, .ref (w.2.1 + 503)), (1, .int x1)] [] S r
  unfold f_X12_cursor at hf
  refine es_l (pc' := 3) (ls' := [(0, .ref (w.2.1 + 503)), (1, .int x1)]) (st' := [.int 100, .ref (w.2.1 + 503)]) (fun _ _ k => e_aload_n dX12_cursor_0 0 rfl (e_bipush (v := 100) dX12_cursor_1 (by decide) k)) ?_
  refine es_callVV (as := [.int 100]) (rest := []) hf xc_12 dX12_cursor_3 cs_X12_cursor_X12_emit ml_X12_278 im_X12_emit se_X12_emit rfl rfl (Nat.le_of_ble_eq_true rfl) (Nat.le_of_ble_eq_true rfl) (by decide) rfl (cel_503 _ _ _) (fun _ e => t_X12_emit N 100 S _ e) (by decide) (fun S139 hf => ?_)
  refine es_l (pc' := 7) (ls' := [(0, .ref (w.2.1 + 503)), (1, .int x1)]) (st' := [.int x1]) (fun _ _ k => e_iload_n dX12_cursor_6 1 rfl k) ?_
  refine es_br (c := x1 = 0) (tgt := 20) (pf := 10) (st' := []) (fun _ _ a b => e_if_eq dX12_cursor_7 rfl a b) (fun c141 => ?_) (fun c141 => ?_)
  · rw [if_pos c141] at hf
    exact t_X12_cursor_20 N x1 S139 r hf
  · rw [if_neg c141] at hf
    refine es_l (pc' := 12) (ls' := [(0, .ref (w.2.1 + 503)), (1, .int x1)]) (st' := [.ref (w.2.1 + 503), .ref (w.2.1 + 503)]) (fun _ _ k => e_aload_n dX12_cursor_10 0 rfl (e_dup dX12_cursor_11 rfl k)) ?_
    refine es_get (v := .int (S139.1 503 20)) xc_12 dX12_cursor_12 fl_X12_72 (by decide) (by decide) (cel_503 _ _ _) rfl ?_
    refine es_l (pc' := 17) (ls' := [(0, .ref (w.2.1 + 503)), (1, .int x1)]) (st' := [.int ((S139.1 503 20) + 1), .ref (w.2.1 + 503)]) (fun _ _ k => e_iconst (v := 1) dX12_cursor_15 (by decide) (e_iadd dX12_cursor_16 k)) ?_
    refine es_put xc_12 dX12_cursor_17 fl_X12_72 (by decide) (by decide) (by decide) (cel_503 _ _ _) rfl rfl rfl rfl ?_
    exact t_X12_cursor_20 N x1 (sI S139 503 20 ((S139.1 503 20) + 1)) r hf
def f_X12_letOrPrint_97 (N : Nat)  (x2 : Int32) (s0 : Int32) (S : xS) : Option xr :=
  xcV (f_X12_emit N s0 S) (fun S57 =>
  xcV (f_X12_emit N x2 S57) (fun S59 =>
  xcI (f_X12_sign N 59 S59) (fun v62 S61 =>
  if xbo v62 then
  some (.inl (some (.inl v62)), S61)
  else none
  )
  )
  )
set_option maxRecDepth 100000 in
set_option maxHeartbeats 4000000 in
theorem t_X12_letOrPrint_97 {l : Launch} {w : xW} {g : Nat → xE} (N : Nat)   (x2 : Int32) (s0 : Int32) (S : xS) (r : xr) (hf : f_X12_letOrPrint_97 N  x2 s0 S = some r) : ES l w g M_X12_letOrPrint 97 [(0, .ref (w.2.1 + 503)), (2, .int x2)] [.int s0, .ref (w.2.1 + 503)] S r := by
  unfold f_X12_letOrPrint_97 at hf
  refine es_callVV (as := [.int s0]) (rest := []) hf xc_12 dX12_letOrPrint_97 cs_X12_letOrPrint_X12_emit ml_X12_278 im_X12_emit se_X12_emit rfl rfl (Nat.le_of_ble_eq_true rfl) (Nat.le_of_ble_eq_true rfl) (by decide) rfl (cel_503 _ _ _) (fun _ e => t_X12_emit N s0 S _ e) (by decide) (fun S57 hf => ?_)
  refine es_l (pc' := 102) (ls' := [(0, .ref (w.2.1 + 503)), (2, .int x2)]) (st' := [.int x2, .ref (w.2.1 + 503)]) (fun _ _ k => e_aload_n dX12_letOrPrint_100 0 rfl (e_iload_n dX12_letOrPrint_101 1 rfl k)) ?_
  refine es_callVV (as := [.int x2]) (rest := []) hf xc_12 dX12_letOrPrint_102 cs_X12_letOrPrint_X12_emit ml_X12_278 im_X12_emit se_X12_emit rfl rfl (Nat.le_of_ble_eq_true rfl) (Nat.le_of_ble_eq_true rfl) (by decide) rfl (cel_503 _ _ _) (fun _ e => t_X12_emit N x2 S57 _ e) (by decide) (fun S59 hf => ?_)
  refine es_l (pc' := 108) (ls' := [(0, .ref (w.2.1 + 503)), (2, .int x2)]) (st' := [.int 59, .ref (w.2.1 + 503)]) (fun _ _ k => e_aload_n dX12_letOrPrint_105 0 rfl (e_bipush (v := 59) dX12_letOrPrint_106 (by decide) k)) ?_
  refine es_callVI (as := [.int 59]) (rest := []) hf xc_12 dX12_letOrPrint_108 cs_X12_letOrPrint_X12_sign ml_X12_299 im_X12_sign se_X12_sign rfl rfl (Nat.le_of_ble_eq_true rfl) (Nat.le_of_ble_eq_true rfl) (by decide) rfl (cel_503 _ _ _) (fun _ e => t_X12_sign N 59 S59 _ e) (by decide) (fun v62 S61 hf => ?_)
  obtain ⟨g63, hf⟩ := xg hf
  exact es_ireturn (ty := .boolean) dX12_letOrPrint_111 rfl (xbo_n g63) hf
def f_X12_letOrPrint_76 (N : Nat)  (x1 : Int32) (x2 : Int32) (S : xS) : Option xr :=
  xcI (f_X12_inline N S) (fun v65 S64 =>
  if v65 = 0 then
    some (.inl (some (.inl 0)), S64)
  else
    if x1 = 0 then
      f_X12_letOrPrint_97 N x2 102 S64
    else
      f_X12_letOrPrint_97 N x2 101 S64
  )
set_option maxRecDepth 100000 in
set_option maxHeartbeats 4000000 in
theorem t_X12_letOrPrint_76 {l : Launch} {w : xW} {g : Nat → xE} (N : Nat)   (x1 : Int32) (x2 : Int32) (S : xS) (r : xr) (hf : f_X12_letOrPrint_76 N  x1 x2 S = some r) : ES l w g M_X12_letOrPrint 76 [(0, .ref (w.2.1 + 503)), (1, .int x1), (2, .int x2)] [] S r := by
  unfold f_X12_letOrPrint_76 at hf
  refine es_l (pc' := 77) (ls' := [(0, .ref (w.2.1 + 503)), (1, .int x1), (2, .int x2)]) (st' := [.ref (w.2.1 + 503)]) (fun _ _ k => e_aload_n dX12_letOrPrint_76 0 rfl k) ?_
  refine es_callVI (as := []) (rest := []) hf xc_12 dX12_letOrPrint_77 cs_X12_letOrPrint_X12_inline ml_X12_318 im_X12_inline se_X12_inline rfl rfl (Nat.le_of_ble_eq_true rfl) (Nat.le_of_ble_eq_true rfl) (by decide) rfl (cel_503 _ _ _) (fun _ e => t_X12_inline N  S _ e) (by decide) (fun v65 S64 hf => ?_)
  refine es_br (c := v65 = 0) (tgt := 83) (pf := 85) (st' := []) (fun _ _ a b => e_if_ne dX12_letOrPrint_80 rfl b a) (fun c66 => ?_) (fun c66 => ?_)
  · rw [if_pos c66] at hf
    refine es_l (pc' := 84) (ls' := [(0, .ref (w.2.1 + 503)), (1, .int x1), (2, .int x2)]) (st' := [.int 0]) (fun _ _ k => e_iconst (v := 0) dX12_letOrPrint_83 (by decide) k) ?_
    exact es_ireturn (ty := .boolean) dX12_letOrPrint_84 rfl rfl hf
  · rw [if_neg c66] at hf
    refine es_l (pc' := 87) (ls' := [(0, .ref (w.2.1 + 503)), (1, .int x1), (2, .int x2)]) (st' := [.int x1, .ref (w.2.1 + 503)]) (fun _ _ k => e_aload_n dX12_letOrPrint_85 0 rfl (e_iload_n dX12_letOrPrint_86 1 rfl k)) ?_
    refine es_br (c := x1 = 0) (tgt := 95) (pf := 90) (st' := [.ref (w.2.1 + 503)]) (fun _ _ a b => e_if_eq dX12_letOrPrint_87 rfl a b) (fun c67 => ?_) (fun c67 => ?_)
    · rw [if_pos c67] at hf
      refine es_l (pc' := 97) (ls' := [(0, .ref (w.2.1 + 503)), (1, .int x1), (2, .int x2)]) (st' := [.int 102, .ref (w.2.1 + 503)]) (fun _ _ k => e_bipush (v := 102) dX12_letOrPrint_95 (by decide) k) ?_
      refine es_sub [0, 2] rfl ?_
      exact t_X12_letOrPrint_97 N x2 102 S64 r hf
    · rw [if_neg c67] at hf
      refine es_l (pc' := 97) (ls' := [(0, .ref (w.2.1 + 503)), (1, .int x1), (2, .int x2)]) (st' := [.int 101, .ref (w.2.1 + 503)]) (fun _ _ k => e_bipush (v := 101) dX12_letOrPrint_90 (by decide) (e_goto (tgt := 97) dX12_letOrPrint_92 rfl k)) ?_
      refine es_sub [0, 2] rfl ?_
      exact t_X12_letOrPrint_97 N x2 101 S64 r hf
def f_X12_letOrPrint_51 (N : Nat)   (S : xS) : Option xr :=
  xcI (f_X12_wrong N S) (fun v69 S68 =>
  if xbo v69 then
  some (.inl (some (.inl v69)), S68)
  else none
  )
set_option maxRecDepth 100000 in
set_option maxHeartbeats 4000000 in
theorem t_X12_letOrPrint_51 {l : Launch} {w : xW} {g : Nat → xE} (N : Nat)    (S : xS) (r : xr) (hf : f_X12_letOrPrint_51 N   S = some r) : ES l w g M_X12_letOrPrint 51 [(0, .ref (w.2.1 + 503))] [] S r := by
  unfold f_X12_letOrPrint_51 at hf
  refine es_l (pc' := 52) (ls' := [(0, .ref (w.2.1 + 503))]) (st' := [.ref (w.2.1 + 503)]) (fun _ _ k => e_aload_n dX12_letOrPrint_51 0 rfl k) ?_
  refine es_callVI (as := []) (rest := []) hf xc_12 dX12_letOrPrint_52 cs_X12_letOrPrint_X12_wrong ml_X12_235 im_X12_wrong se_X12_wrong rfl rfl (Nat.le_of_ble_eq_true rfl) (Nat.le_of_ble_eq_true rfl) (by decide) rfl (cel_503 _ _ _) (fun _ e => t_X12_wrong N  S _ e) (by decide) (fun v69 S68 hf => ?_)
  obtain ⟨g70, hf⟩ := xg hf
  exact es_ireturn (ty := .boolean) dX12_letOrPrint_55 rfl (xbo_n g70) hf
def f_X12_letOrPrint_74 (N : Nat)   (S : xS) : Option xr :=
  some (.inl (some (.inl 0)), S)
set_option maxRecDepth 100000 in
set_option maxHeartbeats 4000000 in
theorem t_X12_letOrPrint_74 {l : Launch} {w : xW} {g : Nat → xE} (N : Nat)    (S : xS) (r : xr) (hf : f_X12_letOrPrint_74 N   S = some r) : ES l w g M_X12_letOrPrint 74 [] [] S r := by
  unfold f_X12_letOrPrint_74 at hf
  refine es_l (pc' := 75) (ls' := []) (st' := [.int 0]) (fun _ _ k => e_iconst (v := 0) dX12_letOrPrint_74 (by decide) k) ?_
  exact es_ireturn (ty := .boolean) dX12_letOrPrint_75 rfl rfl hf
def f_X12_letOrPrint (N : Nat) (x1 : Int32) (S : xS) : Option xr :=
  xcV (f_X12_emit N 100 S) (fun S71 =>
  if x1 = 0 then
    f_X12_letOrPrint_76 N x1 0 (sI S71 503 20 ((S71.1 503 20) + 1))
  else
    if xin ((S71.1 503 20) + 1) 152 then
    if (S71.1 514 (((S71.1 503 20) + 1).toNatClampNeg)) = 1 then
      xcI (f_X12_kindOf N (S71.2.1 516 (((S71.1 503 20) + 1).toNatClampNeg)) (sI S71 503 20 ((S71.1 503 20) + 1))) (fun v77 S76 =>
      if v77 < 0 then
        xcI (f_X12_takeVariable N S76) (fun v80 S79 =>
        if v80 < 0 then
          f_X12_letOrPrint_74 N S79
        else
          xcI (f_X12_sign N 61 S79) (fun v83 S82 =>
          if v83 = 0 then
            f_X12_letOrPrint_74 N S82
          else
            f_X12_letOrPrint_76 N x1 v80 S82
          )
        )
      else
        f_X12_letOrPrint_51 N S76
      )
    else
      f_X12_letOrPrint_51 N (sI S71 503 20 ((S71.1 503 20) + 1))
    else none
  )
set_option maxRecDepth 100000 in
set_option maxHeartbeats 4000000 in
theorem t_X12_letOrPrint {l : Launch} {w : xW} {g : Nat → xE} (N : Nat) (x1 : Int32) (S : xS) (r : xr) (hf : f_X12_letOrPrint N x1 S = some r) : ES l w g M_X12_letOrPrint 0 (lv_args 0 [.ref (w.2.1 + 503), .int x1]) [] S r := by
  show ES l w g M_X12_letOrPrint 0 [(0, .ref (w.2.1 + 503)), (1, .int x1)] [] S r
  unfold f_X12_letOrPrint at hf
  refine es_l (pc' := 3) (ls' := [(0, .ref (w.2.1 + 503)), (1, .int x1)]) (st' := [.int 100, .ref (w.2.1 + 503)]) (fun _ _ k => e_aload_n dX12_letOrPrint_0 0 rfl (e_bipush (v := 100) dX12_letOrPrint_1 (by decide) k)) ?_
  refine es_callVV (as := [.int 100]) (rest := []) hf xc_12 dX12_letOrPrint_3 cs_X12_letOrPrint_X12_emit ml_X12_278 im_X12_emit se_X12_emit rfl rfl (Nat.le_of_ble_eq_true rfl) (Nat.le_of_ble_eq_true rfl) (by decide) rfl (cel_503 _ _ _) (fun _ e => t_X12_emit N 100 S _ e) (by decide) (fun S71 hf => ?_)
  refine es_l (pc' := 8) (ls' := [(0, .ref (w.2.1 + 503)), (1, .int x1)]) (st' := [.ref (w.2.1 + 503), .ref (w.2.1 + 503)]) (fun _ _ k => e_aload_n dX12_letOrPrint_6 0 rfl (e_dup dX12_letOrPrint_7 rfl k)) ?_
  refine es_get (v := .int (S71.1 503 20)) xc_12 dX12_letOrPrint_8 fl_X12_72 (by decide) (by decide) (cel_503 _ _ _) rfl ?_
  refine es_l (pc' := 13) (ls' := [(0, .ref (w.2.1 + 503)), (1, .int x1)]) (st' := [.int ((S71.1 503 20) + 1), .ref (w.2.1 + 503)]) (fun _ _ k => e_iconst (v := 1) dX12_letOrPrint_11 (by decide) (e_iadd dX12_letOrPrint_12 k)) ?_
  refine es_put xc_12 dX12_letOrPrint_13 fl_X12_72 (by decide) (by decide) (by decide) (cel_503 _ _ _) rfl rfl rfl rfl ?_
  refine es_l (pc' := 19) (ls' := [(2, .int 0), (0, .ref (w.2.1 + 503)), (1, .int x1)]) (st' := [.int x1]) (fun _ _ k => e_iconst (v := 0) dX12_letOrPrint_16 (by decide) (e_istore_n (ls' := [(2, .int 0), (0, .ref (w.2.1 + 503)), (1, .int x1)]) dX12_letOrPrint_17 (by decide) rfl (e_iload_n dX12_letOrPrint_18 2 rfl k))) ?_
  refine es_br (c := x1 = 0) (tgt := 76) (pf := 22) (st' := []) (fun _ _ a b => e_if_eq dX12_letOrPrint_19 rfl a b) (fun c73 => ?_) (fun c73 => ?_)
  · rw [if_pos c73] at hf
    refine es_sub [1, 2, 0] rfl ?_
    exact t_X12_letOrPrint_76 N x1 0 (sI S71 503 20 ((S71.1 503 20) + 1)) r hf
  · rw [if_neg c73] at hf
    refine es_l (pc' := 23) (ls' := [(2, .int 0), (0, .ref (w.2.1 + 503)), (1, .int x1)]) (st' := [.ref (w.2.1 + 503)]) (fun _ _ k => e_aload_n dX12_letOrPrint_22 1 rfl k) ?_
    refine es_get (v := .ref (w.2.1 + 514)) xc_12 dX12_letOrPrint_23 fl_X12_57 (by decide) (by decide) (cel_503 _ _ _) rfl ?_
    refine es_l (pc' := 27) (ls' := [(2, .int 0), (0, .ref (w.2.1 + 503)), (1, .int x1)]) (st' := [.ref (w.2.1 + 503), .ref (w.2.1 + 514)]) (fun _ _ k => e_aload_n dX12_letOrPrint_26 1 rfl k) ?_
    refine es_get (v := .int ((S71.1 503 20) + 1)) xc_12 dX12_letOrPrint_27 fl_X12_72 (by decide) (by decide) (cel_503 _ _ _) rfl ?_
    obtain ⟨g74, hf⟩ := xg hf
    refine es_iald (v := .int (S71.1 514 (((S71.1 503 20) + 1).toNatClampNeg))) dX12_letOrPrint_30 (by decide) (cel_514 _ _ _) g74 rfl ?_
    refine es_l (pc' := 32) (ls' := [(2, .int 0), (0, .ref (w.2.1 + 503)), (1, .int x1)]) (st' := [.int 1, .int (S71.1 514 (((S71.1 503 20) + 1).toNatClampNeg))]) (fun _ _ k => e_iconst (v := 1) dX12_letOrPrint_31 (by decide) k) ?_
    refine es_br (c := (S71.1 514 (((S71.1 503 20) + 1).toNatClampNeg)) = 1) (tgt := 35) (pf := 51) (st' := []) (fun _ _ a b => e_icmp_ne dX12_letOrPrint_32 rfl b a) (fun c75 => ?_) (fun c75 => ?_)
    · rw [if_pos c75] at hf
      refine es_l (pc' := 37) (ls' := [(2, .int 0), (0, .ref (w.2.1 + 503)), (1, .int x1)]) (st' := [.ref (w.2.1 + 503), .ref (w.2.1 + 503)]) (fun _ _ k => e_aload_n dX12_letOrPrint_35 1 rfl (e_aload_n dX12_letOrPrint_36 1 rfl k)) ?_
      refine es_get (v := .ref (w.2.1 + 516)) xc_12 dX12_letOrPrint_37 fl_X12_63 (by decide) (by decide) (cel_503 _ _ _) rfl ?_
      refine es_l (pc' := 41) (ls' := [(2, .int 0), (0, .ref (w.2.1 + 503)), (1, .int x1)]) (st' := [.ref (w.2.1 + 503), .ref (w.2.1 + 516), .ref (w.2.1 + 503)]) (fun _ _ k => e_aload_n dX12_letOrPrint_40 1 rfl k) ?_
      refine es_get (v := .int ((S71.1 503 20) + 1)) xc_12 dX12_letOrPrint_41 fl_X12_72 (by decide) (by decide) (cel_503 _ _ _) rfl ?_
      refine es_lald (v := .long (S71.2.1 516 (((S71.1 503 20) + 1).toNatClampNeg))) dX12_letOrPrint_44 (by decide) (cel_516 _ _ _) g74 rfl ?_
      refine es_callVI (as := [.long (S71.2.1 516 (((S71.1 503 20) + 1).toNatClampNeg))]) (rest := []) hf xc_12 dX12_letOrPrint_45 cs_X12_letOrPrint_X12_kindOf ml_X12_242 im_X12_kindOf se_X12_kindOf rfl rfl (Nat.le_of_ble_eq_true rfl) (Nat.le_of_ble_eq_true rfl) (by decide) rfl (cel_503 _ _ _) (fun _ e => t_X12_kindOf N (S71.2.1 516 (((S71.1 503 20) + 1).toNatClampNeg)) (sI S71 503 20 ((S71.1 503 20) + 1)) _ e) (by decide) (fun v77 S76 hf => ?_)
      refine es_br (c := v77 < 0) (tgt := 56) (pf := 51) (st' := []) (fun _ _ a b => e_if_lt dX12_letOrPrint_48 rfl a b) (fun c78 => ?_) (fun c78 => ?_)
      · rw [if_pos c78] at hf
        refine es_l (pc' := 57) (ls' := [(2, .int 0), (0, .ref (w.2.1 + 503)), (1, .int x1)]) (st' := [.ref (w.2.1 + 503)]) (fun _ _ k => e_aload_n dX12_letOrPrint_56 1 rfl k) ?_
        refine es_callVI (as := []) (rest := []) hf xc_12 dX12_letOrPrint_57 cs_X12_letOrPrint_X12_takeVariable ml_X12_293 im_X12_takeVariable se_X12_takeVariable rfl rfl (Nat.le_of_ble_eq_true rfl) (Nat.le_of_ble_eq_true rfl) (by decide) rfl (cel_503 _ _ _) (fun _ e => t_X12_takeVariable N  S76 _ e) (by decide) (fun v80 S79 hf => ?_)
        refine es_l (pc' := 62) (ls' := [(2, .int v80), (0, .ref (w.2.1 + 503)), (1, .int x1)]) (st' := [.int v80]) (fun _ _ k => e_istore_n (ls' := [(2, .int v80), (0, .ref (w.2.1 + 503)), (1, .int x1)]) dX12_letOrPrint_60 (by decide) rfl (e_iload_n dX12_letOrPrint_61 0 rfl k)) ?_
        refine es_br (c := v80 < 0) (tgt := 74) (pf := 65) (st' := []) (fun _ _ a b => e_if_lt dX12_letOrPrint_62 rfl a b) (fun c81 => ?_) (fun c81 => ?_)
        · rw [if_pos c81] at hf
          refine es_sub [] rfl ?_
          exact t_X12_letOrPrint_74 N S79 r hf
        · rw [if_neg c81] at hf
          refine es_l (pc' := 68) (ls' := [(2, .int v80), (0, .ref (w.2.1 + 503)), (1, .int x1)]) (st' := [.int 61, .ref (w.2.1 + 503)]) (fun _ _ k => e_aload_n dX12_letOrPrint_65 1 rfl (e_bipush (v := 61) dX12_letOrPrint_66 (by decide) k)) ?_
          refine es_callVI (as := [.int 61]) (rest := []) hf xc_12 dX12_letOrPrint_68 cs_X12_letOrPrint_X12_sign ml_X12_299 im_X12_sign se_X12_sign rfl rfl (Nat.le_of_ble_eq_true rfl) (Nat.le_of_ble_eq_true rfl) (by decide) rfl (cel_503 _ _ _) (fun _ e => t_X12_sign N 61 S79 _ e) (by decide) (fun v83 S82 hf => ?_)
          refine es_br (c := v83 = 0) (tgt := 74) (pf := 76) (st' := []) (fun _ _ a b => e_if_ne dX12_letOrPrint_71 rfl b a) (fun c84 => ?_) (fun c84 => ?_)
          · rw [if_pos c84] at hf
            refine es_sub [] rfl ?_
            exact t_X12_letOrPrint_74 N S82 r hf
          · rw [if_neg c84] at hf
            refine es_sub [1, 2, 0] rfl ?_
            exact t_X12_letOrPrint_76 N x1 v80 S82 r hf
      · rw [if_neg c78] at hf
        refine es_sub [1] rfl ?_
        exact t_X12_letOrPrint_51 N S76 r hf
    · rw [if_neg c75] at hf
      refine es_sub [1] rfl ?_
      exact t_X12_letOrPrint_51 N (sI S71 503 20 ((S71.1 503 20) + 1)) r hf
def f_X12_onKind_105 (N : Nat)  (s0 : Int32) (S : xS) : Option xr :=
  if xbo s0 then
  some (.inl (some (.inl s0)), S)
  else none
set_option maxRecDepth 100000 in
set_option maxHeartbeats 4000000 in
theorem t_X12_onKind_105 {l : Launch} {w : xW} {g : Nat → xE} (N : Nat)   (s0 : Int32) (S : xS) (r : xr) (hf : f_X12_onKind_105 N  s0 S = some r) : ES l w g M_X12_onKind 105 [] [.int s0] S r := by
  unfold f_X12_onKind_105 at hf
  obtain ⟨g57, hf⟩ := xg hf
  exact es_ireturn (ty := .boolean) dX12_onKind_105 rfl (xbo_n g57) hf
def f_X12_onKind_104 (N : Nat)   (S : xS) : Option xr :=
  f_X12_onKind_105 N 0 S
set_option maxRecDepth 100000 in
set_option maxHeartbeats 4000000 in
theorem t_X12_onKind_104 {l : Launch} {w : xW} {g : Nat → xE} (N : Nat)    (S : xS) (r : xr) (hf : f_X12_onKind_104 N   S = some r) : ES l w g M_X12_onKind 104 [] [] S r := by
  unfold f_X12_onKind_104 at hf
  refine es_l (pc' := 105) (ls' := []) (st' := [.int 0]) (fun _ _ k => e_iconst (v := 0) dX12_onKind_104 (by decide) k) ?_
  exact t_X12_onKind_105 N 0 S r hf
def f_X12_onKind_52 (N : Nat)  (x1 : Int32) (x2 : Int32) (s0 : Int32) (S : xS) : Option xr :=
  xcV (f_X12_emit N s0 S) (fun S58 =>
  xcV (f_X12_emit N x2 S58) (fun S60 =>
  xcI (f_X12_whereOf N x2 S60) (fun v63 S62 =>
  if v63 = 0 then
    some (.inl (some (.inl 0)), S62)
  else
    if x1 = 2 then
      xcI (f_X12_sign N 59 S62) (fun v67 S66 =>
      if xbo v67 then
      some (.inl (some (.inl v67)), S66)
      else none
      )
    else
      xcI (f_X12_sign N 58 S62) (fun v70 S69 =>
      if v70 = 0 then
        f_X12_onKind_104 N S69
      else
        xcI (f_X12_puts N x2 1 S69) (fun v73 S72 =>
        if v73 = 0 then
          f_X12_onKind_104 N S72
        else
          f_X12_onKind_105 N 1 S72
        )
      )
  )
  )
  )
set_option maxRecDepth 100000 in
set_option maxHeartbeats 4000000 in
theorem t_X12_onKind_52 {l : Launch} {w : xW} {g : Nat → xE} (N : Nat)   (x1 : Int32) (x2 : Int32) (s0 : Int32) (S : xS) (r : xr) (hf : f_X12_onKind_52 N  x1 x2 s0 S = some r) : ES l w g M_X12_onKind 52 [(0, .ref (w.2.1 + 503)), (1, .int x1), (2, .int x2)] [.int s0, .ref (w.2.1 + 503)] S r := by
  unfold f_X12_onKind_52 at hf
  refine es_callVV (as := [.int s0]) (rest := []) hf xc_12 dX12_onKind_52 cs_X12_onKind_X12_emit ml_X12_278 im_X12_emit se_X12_emit rfl rfl (Nat.le_of_ble_eq_true rfl) (Nat.le_of_ble_eq_true rfl) (by decide) rfl (cel_503 _ _ _) (fun _ e => t_X12_emit N s0 S _ e) (by decide) (fun S58 hf => ?_)
  refine es_l (pc' := 57) (ls' := [(0, .ref (w.2.1 + 503)), (1, .int x1), (2, .int x2)]) (st' := [.int x2, .ref (w.2.1 + 503)]) (fun _ _ k => e_aload_n dX12_onKind_55 0 rfl (e_iload_n dX12_onKind_56 2 rfl k)) ?_
  refine es_callVV (as := [.int x2]) (rest := []) hf xc_12 dX12_onKind_57 cs_X12_onKind_X12_emit ml_X12_278 im_X12_emit se_X12_emit rfl rfl (Nat.le_of_ble_eq_true rfl) (Nat.le_of_ble_eq_true rfl) (by decide) rfl (cel_503 _ _ _) (fun _ e => t_X12_emit N x2 S58 _ e) (by decide) (fun S60 hf => ?_)
  refine es_l (pc' := 62) (ls' := [(0, .ref (w.2.1 + 503)), (1, .int x1), (2, .int x2)]) (st' := [.int x2, .ref (w.2.1 + 503)]) (fun _ _ k => e_aload_n dX12_onKind_60 0 rfl (e_iload_n dX12_onKind_61 2 rfl k)) ?_
  refine es_callVI (as := [.int x2]) (rest := []) hf xc_12 dX12_onKind_62 cs_X12_onKind_X12_whereOf ml_X12_327 im_X12_whereOf se_X12_whereOf rfl rfl (Nat.le_of_ble_eq_true rfl) (Nat.le_of_ble_eq_true rfl) (by decide) rfl (cel_503 _ _ _) (fun _ e => t_X12_whereOf N x2 S60 _ e) (by decide) (fun v63 S62 hf => ?_)
  refine es_br (c := v63 = 0) (tgt := 68) (pf := 70) (st' := []) (fun _ _ a b => e_if_ne dX12_onKind_65 rfl b a) (fun c64 => ?_) (fun c64 => ?_)
  · rw [if_pos c64] at hf
    refine es_l (pc' := 69) (ls' := [(0, .ref (w.2.1 + 503)), (1, .int x1), (2, .int x2)]) (st' := [.int 0]) (fun _ _ k => e_iconst (v := 0) dX12_onKind_68 (by decide) k) ?_
    exact es_ireturn (ty := .boolean) dX12_onKind_69 rfl rfl hf
  · rw [if_neg c64] at hf
    refine es_l (pc' := 72) (ls' := [(0, .ref (w.2.1 + 503)), (1, .int x1), (2, .int x2)]) (st' := [.int 2, .int x1]) (fun _ _ k => e_iload_n dX12_onKind_70 1 rfl (e_iconst (v := 2) dX12_onKind_71 (by decide) k)) ?_
    refine es_br (c := x1 = 2) (tgt := 75) (pf := 82) (st' := []) (fun _ _ a b => e_icmp_ne dX12_onKind_72 rfl b a) (fun c65 => ?_) (fun c65 => ?_)
    · rw [if_pos c65] at hf
      refine es_l (pc' := 78) (ls' := [(0, .ref (w.2.1 + 503)), (1, .int x1), (2, .int x2)]) (st' := [.int 59, .ref (w.2.1 + 503)]) (fun _ _ k => e_aload_n dX12_onKind_75 0 rfl (e_bipush (v := 59) dX12_onKind_76 (by decide) k)) ?_
      refine es_callVI (as := [.int 59]) (rest := []) hf xc_12 dX12_onKind_78 cs_X12_onKind_X12_sign ml_X12_299 im_X12_sign se_X12_sign rfl rfl (Nat.le_of_ble_eq_true rfl) (Nat.le_of_ble_eq_true rfl) (by decide) rfl (cel_503 _ _ _) (fun _ e => t_X12_sign N 59 S62 _ e) (by decide) (fun v67 S66 hf => ?_)
      obtain ⟨g68, hf⟩ := xg hf
      exact es_ireturn (ty := .boolean) dX12_onKind_81 rfl (xbo_n g68) hf
    · rw [if_neg c65] at hf
      refine es_l (pc' := 85) (ls' := [(0, .ref (w.2.1 + 503)), (1, .int x1), (2, .int x2)]) (st' := [.int 58, .ref (w.2.1 + 503)]) (fun _ _ k => e_aload_n dX12_onKind_82 0 rfl (e_bipush (v := 58) dX12_onKind_83 (by decide) k)) ?_
      refine es_callVI (as := [.int 58]) (rest := []) hf xc_12 dX12_onKind_85 cs_X12_onKind_X12_sign ml_X12_299 im_X12_sign se_X12_sign rfl rfl (Nat.le_of_ble_eq_true rfl) (Nat.le_of_ble_eq_true rfl) (by decide) rfl (cel_503 _ _ _) (fun _ e => t_X12_sign N 58 S62 _ e) (by decide) (fun v70 S69 hf => ?_)
      refine es_br (c := v70 = 0) (tgt := 104) (pf := 91) (st' := []) (fun _ _ a b => e_if_eq dX12_onKind_88 rfl a b) (fun c71 => ?_) (fun c71 => ?_)
      · rw [if_pos c71] at hf
        refine es_sub [] rfl ?_
        exact t_X12_onKind_104 N S69 r hf
      · rw [if_neg c71] at hf
        refine es_l (pc' := 94) (ls' := [(0, .ref (w.2.1 + 503)), (1, .int x1), (2, .int x2)]) (st' := [.int 1, .int x2, .ref (w.2.1 + 503)]) (fun _ _ k => e_aload_n dX12_onKind_91 0 rfl (e_iload_n dX12_onKind_92 2 rfl (e_iconst (v := 1) dX12_onKind_93 (by decide) k))) ?_
        refine es_callVI (as := [.int x2, .int 1]) (rest := []) hf xc_12 dX12_onKind_94 cs_X12_onKind_X12_puts ml_X12_337 im_X12_puts se_X12_puts rfl rfl (Nat.le_of_ble_eq_true rfl) (Nat.le_of_ble_eq_true rfl) (by decide) rfl (cel_503 _ _ _) (fun _ e => t_X12_puts N x2 1 S69 _ e) (by decide) (fun v73 S72 hf => ?_)
        refine es_br (c := v73 = 0) (tgt := 104) (pf := 100) (st' := []) (fun _ _ a b => e_if_eq dX12_onKind_97 rfl a b) (fun c74 => ?_) (fun c74 => ?_)
        · rw [if_pos c74] at hf
          refine es_sub [] rfl ?_
          exact t_X12_onKind_104 N S72 r hf
        · rw [if_neg c74] at hf
          refine es_l (pc' := 105) (ls' := [(0, .ref (w.2.1 + 503)), (1, .int x1), (2, .int x2)]) (st' := [.int 1]) (fun _ _ k => e_iconst (v := 1) dX12_onKind_100 (by decide) (e_goto (tgt := 105) dX12_onKind_101 rfl k)) ?_
          refine es_sub [] rfl ?_
          exact t_X12_onKind_105 N 1 S72 r hf
def f_X12_onKind (N : Nat) (x1 : Int32) (S : xS) : Option xr :=
  xcV (f_X12_emit N 100 S) (fun S75 =>
  xcI (f_X12_takeKind N (sI S75 503 20 ((S75.1 503 20) + 1))) (fun v78 S77 =>
  if 0 ≤ v78 then
    if x1 = 1 then
      xcI (f_X12_puts N v78 0 S77) (fun v82 S81 =>
      if xbo v82 then
      some (.inl (some (.inl v82)), S81)
      else none
      )
    else
      if x1 = 2 then
        f_X12_onKind_52 N x1 v78 104 S77
      else
        f_X12_onKind_52 N x1 v78 105 S77
  else
    some (.inl (some (.inl 0)), S77)
  )
  )
set_option maxRecDepth 100000 in
set_option maxHeartbeats 4000000 in
theorem t_X12_onKind {l : Launch} {w : xW} {g : Nat → xE} (N : Nat) (x1 : Int32) (S : xS) (r : xr) (hf : f_X12_onKind N x1 S = some r) : ES l w g M_X12_onKind 0 (lv_args 0 [.ref (w.2.1 + 503), .int x1]) [] S r := by
  show ES l w g M_X12_onKind 0 [(0, .ref (w.2.1 + 503)), (1, .int x1)] [] S r
  unfold f_X12_onKind at hf
  refine es_l (pc' := 3) (ls' := [(0, .ref (w.2.1 + 503)), (1, .int x1)]) (st' := [.int 100, .ref (w.2.1 + 503)]) (fun _ _ k => e_aload_n dX12_onKind_0 0 rfl (e_bipush (v := 100) dX12_onKind_1 (by decide) k)) ?_
  refine es_callVV (as := [.int 100]) (rest := []) hf xc_12 dX12_onKind_3 cs_X12_onKind_X12_emit ml_X12_278 im_X12_emit se_X12_emit rfl rfl (Nat.le_of_ble_eq_true rfl) (Nat.le_of_ble_eq_true rfl) (by decide) rfl (cel_503 _ _ _) (fun _ e => t_X12_emit N 100 S _ e) (by decide) (fun S75 hf => ?_)
  refine es_l (pc' := 8) (ls' := [(0, .ref (w.2.1 + 503)), (1, .int x1)]) (st' := [.ref (w.2.1 + 503), .ref (w.2.1 + 503)]) (fun _ _ k => e_aload_n dX12_onKind_6 0 rfl (e_dup dX12_onKind_7 rfl k)) ?_
  refine es_get (v := .int (S75.1 503 20)) xc_12 dX12_onKind_8 fl_X12_72 (by decide) (by decide) (cel_503 _ _ _) rfl ?_
  refine es_l (pc' := 13) (ls' := [(0, .ref (w.2.1 + 503)), (1, .int x1)]) (st' := [.int ((S75.1 503 20) + 1), .ref (w.2.1 + 503)]) (fun _ _ k => e_iconst (v := 1) dX12_onKind_11 (by decide) (e_iadd dX12_onKind_12 k)) ?_
  refine es_put xc_12 dX12_onKind_13 fl_X12_72 (by decide) (by decide) (by decide) (cel_503 _ _ _) rfl rfl rfl rfl ?_
  refine es_l (pc' := 17) (ls' := [(0, .ref (w.2.1 + 503)), (1, .int x1)]) (st' := [.ref (w.2.1 + 503)]) (fun _ _ k => e_aload_n dX12_onKind_16 0 rfl k) ?_
  refine es_callVI (as := []) (rest := []) hf xc_12 dX12_onKind_17 cs_X12_onKind_X12_takeKind ml_X12_305 im_X12_takeKind se_X12_takeKind rfl rfl (Nat.le_of_ble_eq_true rfl) (Nat.le_of_ble_eq_true rfl) (by decide) rfl (cel_503 _ _ _) (fun _ e => t_X12_takeKind N  (sI S75 503 20 ((S75.1 503 20) + 1)) _ e) (by decide) (fun v78 S77 hf => ?_)
  refine es_l (pc' := 22) (ls' := [(2, .int v78), (0, .ref (w.2.1 + 503)), (1, .int x1)]) (st' := [.int v78]) (fun _ _ k => e_istore_n (ls' := [(2, .int v78), (0, .ref (w.2.1 + 503)), (1, .int x1)]) dX12_onKind_20 (by decide) rfl (e_iload_n dX12_onKind_21 0 rfl k)) ?_
  refine es_br (c := 0 ≤ v78) (tgt := 27) (pf := 25) (st' := []) (fun _ _ a b => e_if_ge dX12_onKind_22 rfl a b) (fun c79 => ?_) (fun c79 => ?_)
  · rw [if_pos c79] at hf
    refine es_l (pc' := 29) (ls' := [(2, .int v78), (0, .ref (w.2.1 + 503)), (1, .int x1)]) (st' := [.int 1, .int x1]) (fun _ _ k => e_iload_n dX12_onKind_27 2 rfl (e_iconst (v := 1) dX12_onKind_28 (by decide) k)) ?_
    refine es_br (c := x1 = 1) (tgt := 32) (pf := 39) (st' := []) (fun _ _ a b => e_icmp_ne dX12_onKind_29 rfl b a) (fun c80 => ?_) (fun c80 => ?_)
    · rw [if_pos c80] at hf
      refine es_l (pc' := 35) (ls' := [(2, .int v78), (0, .ref (w.2.1 + 503)), (1, .int x1)]) (st' := [.int 0, .int v78, .ref (w.2.1 + 503)]) (fun _ _ k => e_aload_n dX12_onKind_32 1 rfl (e_iload_n dX12_onKind_33 0 rfl (e_iconst (v := 0) dX12_onKind_34 (by decide) k))) ?_
      refine es_callVI (as := [.int v78, .int 0]) (rest := []) hf xc_12 dX12_onKind_35 cs_X12_onKind_X12_puts ml_X12_337 im_X12_puts se_X12_puts rfl rfl (Nat.le_of_ble_eq_true rfl) (Nat.le_of_ble_eq_true rfl) (by decide) rfl (cel_503 _ _ _) (fun _ e => t_X12_puts N v78 0 S77 _ e) (by decide) (fun v82 S81 hf => ?_)
      obtain ⟨g83, hf⟩ := xg hf
      exact es_ireturn (ty := .boolean) dX12_onKind_38 rfl (xbo_n g83) hf
    · rw [if_neg c80] at hf
      refine es_l (pc' := 42) (ls' := [(2, .int v78), (0, .ref (w.2.1 + 503)), (1, .int x1)]) (st' := [.int 2, .int x1, .ref (w.2.1 + 503)]) (fun _ _ k => e_aload_n dX12_onKind_39 1 rfl (e_iload_n dX12_onKind_40 2 rfl (e_iconst (v := 2) dX12_onKind_41 (by decide) k))) ?_
      refine es_br (c := x1 = 2) (tgt := 45) (pf := 50) (st' := [.ref (w.2.1 + 503)]) (fun _ _ a b => e_icmp_ne dX12_onKind_42 rfl b a) (fun c84 => ?_) (fun c84 => ?_)
      · rw [if_pos c84] at hf
        refine es_l (pc' := 52) (ls' := [(2, .int v78), (0, .ref (w.2.1 + 503)), (1, .int x1)]) (st' := [.int 104, .ref (w.2.1 + 503)]) (fun _ _ k => e_bipush (v := 104) dX12_onKind_45 (by decide) (e_goto (tgt := 52) dX12_onKind_47 rfl k)) ?_
        refine es_sub [1, 2, 0] rfl ?_
        exact t_X12_onKind_52 N x1 v78 104 S77 r hf
      · rw [if_neg c84] at hf
        refine es_l (pc' := 52) (ls' := [(2, .int v78), (0, .ref (w.2.1 + 503)), (1, .int x1)]) (st' := [.int 105, .ref (w.2.1 + 503)]) (fun _ _ k => e_bipush (v := 105) dX12_onKind_50 (by decide) k) ?_
        refine es_sub [1, 2, 0] rfl ?_
        exact t_X12_onKind_52 N x1 v78 105 S77 r hf
  · rw [if_neg c79] at hf
    refine es_l (pc' := 26) (ls' := [(2, .int v78), (0, .ref (w.2.1 + 503)), (1, .int x1)]) (st' := [.int 0]) (fun _ _ k => e_iconst (v := 0) dX12_onKind_25 (by decide) k) ?_
    exact es_ireturn (ty := .boolean) dX12_onKind_26 rfl rfl hf
