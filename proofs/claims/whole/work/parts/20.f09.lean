def f_X12_wrong_40 (N : Nat)   (S : xS) : Option xr :=
  some (.inl (some (.inl 0)), S)
set_option maxRecDepth 100000 in
set_option maxHeartbeats 4000000 in
theorem t_X12_wrong_40 {l : Launch} {w : xW} {g : Nat → xE} (N : Nat)    (S : xS) (r : xr) (hf : f_X12_wrong_40 N   S = some r) : ES l w g M_X12_wrong 40 [] [] S r := by
  unfold f_X12_wrong_40 at hf
  refine es_l (pc' := 41) (ls' := []) (st' := [.int 0]) (fun _ _ k => e_iconst (v := 0) dX12_wrong_40 (by decide) k) ?_
  exact es_ireturn (ty := .boolean) dX12_wrong_41 rfl rfl hf
def f_X12_wrong_37 (N : Nat)  (s0 : Int32) (S : xS) : Option xr :=
  f_X12_wrong_40 N (sI S 503 21 s0)
set_option maxRecDepth 100000 in
set_option maxHeartbeats 4000000 in
theorem t_X12_wrong_37 {l : Launch} {w : xW} {g : Nat → xE} (N : Nat)   (s0 : Int32) (S : xS) (r : xr) (hf : f_X12_wrong_37 N  s0 S = some r) : ES l w g M_X12_wrong 37 [] [.int s0, .ref (w.2.1 + 503)] S r := by
  unfold f_X12_wrong_37 at hf
  refine es_put xc_12 dX12_wrong_37 fl_X12_75 (by decide) (by decide) (by decide) (cel_503 _ _ _) rfl rfl rfl rfl ?_
  exact t_X12_wrong_40 N (sI S 503 21 s0) r hf
def f_X12_wrong (N : Nat)  (S : xS) : Option xr :=
  if 0 ≤ (S.1 503 21) then
    f_X12_wrong_40 N S
  else
    if xin (S.1 503 20) 152 then
    if (S.1 514 ((S.1 503 20).toNatClampNeg)) = 7 then
      f_X12_wrong_37 N 1000 S
    else
      f_X12_wrong_37 N (S.1 515 ((S.1 503 20).toNatClampNeg)) S
    else none
set_option maxRecDepth 100000 in
set_option maxHeartbeats 4000000 in
theorem t_X12_wrong {l : Launch} {w : xW} {g : Nat → xE} (N : Nat)  (S : xS) (r : xr) (hf : f_X12_wrong N  S = some r) : ES l w g M_X12_wrong 0 (lv_args 0 [.ref (w.2.1 + 503)]) [] S r := by
  show ES l w g M_X12_wrong 0 [(0, .ref (w.2.1 + 503))] [] S r
  unfold f_X12_wrong at hf
  refine es_l (pc' := 1) (ls' := [(0, .ref (w.2.1 + 503))]) (st' := [.ref (w.2.1 + 503)]) (fun _ _ k => e_aload_n dX12_wrong_0 0 rfl k) ?_
  refine es_get (v := .int (S.1 503 21)) xc_12 dX12_wrong_1 fl_X12_75 (by decide) (by decide) (cel_503 _ _ _) rfl ?_
  refine es_br (c := 0 ≤ (S.1 503 21)) (tgt := 40) (pf := 7) (st' := []) (fun _ _ a b => e_if_ge dX12_wrong_4 rfl a b) (fun c7 => ?_) (fun c7 => ?_)
  · rw [if_pos c7] at hf
    refine es_sub [] rfl ?_
    exact t_X12_wrong_40 N S r hf
  · rw [if_neg c7] at hf
    refine es_l (pc' := 9) (ls' := [(0, .ref (w.2.1 + 503))]) (st' := [.ref (w.2.1 + 503), .ref (w.2.1 + 503)]) (fun _ _ k => e_aload_n dX12_wrong_7 0 rfl (e_aload_n dX12_wrong_8 0 rfl k)) ?_
    refine es_get (v := .ref (w.2.1 + 514)) xc_12 dX12_wrong_9 fl_X12_57 (by decide) (by decide) (cel_503 _ _ _) rfl ?_
    refine es_l (pc' := 13) (ls' := [(0, .ref (w.2.1 + 503))]) (st' := [.ref (w.2.1 + 503), .ref (w.2.1 + 514), .ref (w.2.1 + 503)]) (fun _ _ k => e_aload_n dX12_wrong_12 0 rfl k) ?_
    refine es_get (v := .int (S.1 503 20)) xc_12 dX12_wrong_13 fl_X12_72 (by decide) (by decide) (cel_503 _ _ _) rfl ?_
    obtain ⟨g8, hf⟩ := xg hf
    refine es_iald (v := .int (S.1 514 ((S.1 503 20).toNatClampNeg))) dX12_wrong_16 (by decide) (cel_514 _ _ _) g8 rfl ?_
    refine es_l (pc' := 19) (ls' := [(0, .ref (w.2.1 + 503))]) (st' := [.int 7, .int (S.1 514 ((S.1 503 20).toNatClampNeg)), .ref (w.2.1 + 503)]) (fun _ _ k => e_bipush (v := 7) dX12_wrong_17 (by decide) k) ?_
    refine es_br (c := (S.1 514 ((S.1 503 20).toNatClampNeg)) = 7) (tgt := 22) (pf := 28) (st' := [.ref (w.2.1 + 503)]) (fun _ _ a b => e_icmp_ne dX12_wrong_19 rfl b a) (fun c9 => ?_) (fun c9 => ?_)
    · rw [if_pos c9] at hf
      refine es_l (pc' := 37) (ls' := [(0, .ref (w.2.1 + 503))]) (st' := [.int 1000, .ref (w.2.1 + 503)]) (fun _ _ k => e_sipush (v := 1000) dX12_wrong_22 (by decide) (e_goto (tgt := 37) dX12_wrong_25 rfl k)) ?_
      refine es_sub [] rfl ?_
      exact t_X12_wrong_37 N 1000 S r hf
    · rw [if_neg c9] at hf
      refine es_l (pc' := 29) (ls' := [(0, .ref (w.2.1 + 503))]) (st' := [.ref (w.2.1 + 503), .ref (w.2.1 + 503)]) (fun _ _ k => e_aload_n dX12_wrong_28 0 rfl k) ?_
      refine es_get (v := .ref (w.2.1 + 515)) xc_12 dX12_wrong_29 fl_X12_60 (by decide) (by decide) (cel_503 _ _ _) rfl ?_
      refine es_l (pc' := 33) (ls' := [(0, .ref (w.2.1 + 503))]) (st' := [.ref (w.2.1 + 503), .ref (w.2.1 + 515), .ref (w.2.1 + 503)]) (fun _ _ k => e_aload_n dX12_wrong_32 0 rfl k) ?_
      refine es_get (v := .int (S.1 503 20)) xc_12 dX12_wrong_33 fl_X12_72 (by decide) (by decide) (cel_503 _ _ _) rfl ?_
      refine es_iald (v := .int (S.1 515 ((S.1 503 20).toNatClampNeg))) dX12_wrong_36 (by decide) (cel_515 _ _ _) g8 rfl ?_
      refine es_sub [] rfl ?_
      exact t_X12_wrong_37 N (S.1 515 ((S.1 503 20).toNatClampNeg)) S r hf
def f_X12_isSign_33 (N : Nat)  (s0 : Int32) (S : xS) : Option xr :=
  if xbo s0 then
  some (.inl (some (.inl s0)), S)
  else none
set_option maxRecDepth 100000 in
set_option maxHeartbeats 4000000 in
theorem t_X12_isSign_33 {l : Launch} {w : xW} {g : Nat → xE} (N : Nat)   (s0 : Int32) (S : xS) (r : xr) (hf : f_X12_isSign_33 N  s0 S = some r) : ES l w g M_X12_isSign 33 [] [.int s0] S r := by
  unfold f_X12_isSign_33 at hf
  obtain ⟨g9, hf⟩ := xg hf
  exact es_ireturn (ty := .boolean) dX12_isSign_33 rfl (xbo_n g9) hf
def f_X12_isSign_32 (N : Nat)   (S : xS) : Option xr :=
  f_X12_isSign_33 N 0 S
set_option maxRecDepth 100000 in
set_option maxHeartbeats 4000000 in
theorem t_X12_isSign_32 {l : Launch} {w : xW} {g : Nat → xE} (N : Nat)    (S : xS) (r : xr) (hf : f_X12_isSign_32 N   S = some r) : ES l w g M_X12_isSign 32 [] [] S r := by
  unfold f_X12_isSign_32 at hf
  refine es_l (pc' := 33) (ls' := []) (st' := [.int 0]) (fun _ _ k => e_iconst (v := 0) dX12_isSign_32 (by decide) k) ?_
  exact t_X12_isSign_33 N 0 S r hf
def f_X12_isSign (N : Nat) (x1 : Int32) (S : xS) : Option xr :=
  if xin (S.1 503 20) 152 then
  if (S.1 514 ((S.1 503 20).toNatClampNeg)) = 4 then
    if (lg_cmp (S.2.1 516 ((S.1 503 20).toNatClampNeg)) ((x1 : Int32).toInt64)) = 0 then
      f_X12_isSign_33 N 1 S
    else
      f_X12_isSign_32 N S
  else
    f_X12_isSign_32 N S
  else none
set_option maxRecDepth 100000 in
set_option maxHeartbeats 4000000 in
theorem t_X12_isSign {l : Launch} {w : xW} {g : Nat → xE} (N : Nat) (x1 : Int32) (S : xS) (r : xr) (hf : f_X12_isSign N x1 S = some r) : ES l w g M_X12_isSign 0 (lv_args 0 [.ref (w.2.1 + 503), .int x1]) [] S r := by
  show ES l w g M_X12_isSign 0 [(0, .ref (w.2.1 + 503)), (1, .int x1)] [] S r
  unfold f_X12_isSign at hf
  refine es_l (pc' := 1) (ls' := [(0, .ref (w.2.1 + 503)), (1, .int x1)]) (st' := [.ref (w.2.1 + 503)]) (fun _ _ k => e_aload_n dX12_isSign_0 0 rfl k) ?_
  refine es_get (v := .ref (w.2.1 + 514)) xc_12 dX12_isSign_1 fl_X12_57 (by decide) (by decide) (cel_503 _ _ _) rfl ?_
  refine es_l (pc' := 5) (ls' := [(0, .ref (w.2.1 + 503)), (1, .int x1)]) (st' := [.ref (w.2.1 + 503), .ref (w.2.1 + 514)]) (fun _ _ k => e_aload_n dX12_isSign_4 0 rfl k) ?_
  refine es_get (v := .int (S.1 503 20)) xc_12 dX12_isSign_5 fl_X12_72 (by decide) (by decide) (cel_503 _ _ _) rfl ?_
  obtain ⟨g10, hf⟩ := xg hf
  refine es_iald (v := .int (S.1 514 ((S.1 503 20).toNatClampNeg))) dX12_isSign_8 (by decide) (cel_514 _ _ _) g10 rfl ?_
  refine es_l (pc' := 10) (ls' := [(0, .ref (w.2.1 + 503)), (1, .int x1)]) (st' := [.int 4, .int (S.1 514 ((S.1 503 20).toNatClampNeg))]) (fun _ _ k => e_iconst (v := 4) dX12_isSign_9 (by decide) k) ?_
  refine es_br (c := (S.1 514 ((S.1 503 20).toNatClampNeg)) = 4) (tgt := 13) (pf := 32) (st' := []) (fun _ _ a b => e_icmp_ne dX12_isSign_10 rfl b a) (fun c11 => ?_) (fun c11 => ?_)
  · rw [if_pos c11] at hf
    refine es_l (pc' := 14) (ls' := [(0, .ref (w.2.1 + 503)), (1, .int x1)]) (st' := [.ref (w.2.1 + 503)]) (fun _ _ k => e_aload_n dX12_isSign_13 0 rfl k) ?_
    refine es_get (v := .ref (w.2.1 + 516)) xc_12 dX12_isSign_14 fl_X12_63 (by decide) (by decide) (cel_503 _ _ _) rfl ?_
    refine es_l (pc' := 18) (ls' := [(0, .ref (w.2.1 + 503)), (1, .int x1)]) (st' := [.ref (w.2.1 + 503), .ref (w.2.1 + 516)]) (fun _ _ k => e_aload_n dX12_isSign_17 0 rfl k) ?_
    refine es_get (v := .int (S.1 503 20)) xc_12 dX12_isSign_18 fl_X12_72 (by decide) (by decide) (cel_503 _ _ _) rfl ?_
    refine es_lald (v := .long (S.2.1 516 ((S.1 503 20).toNatClampNeg))) dX12_isSign_21 (by decide) (cel_516 _ _ _) g10 rfl ?_
    refine es_l (pc' := 25) (ls' := [(0, .ref (w.2.1 + 503)), (1, .int x1)]) (st' := [.int (lg_cmp (S.2.1 516 ((S.1 503 20).toNatClampNeg)) ((x1 : Int32).toInt64))]) (fun _ _ k => e_iload_n dX12_isSign_22 1 rfl (e_i2l (v := (x1 : Int32).toInt64) dX12_isSign_23 rfl (e_lcmp dX12_isSign_24 k))) ?_
    refine es_br (c := (lg_cmp (S.2.1 516 ((S.1 503 20).toNatClampNeg)) ((x1 : Int32).toInt64)) = 0) (tgt := 28) (pf := 32) (st' := []) (fun _ _ a b => e_if_ne dX12_isSign_25 rfl b a) (fun c12 => ?_) (fun c12 => ?_)
    · rw [if_pos c12] at hf
      refine es_l (pc' := 33) (ls' := [(0, .ref (w.2.1 + 503)), (1, .int x1)]) (st' := [.int 1]) (fun _ _ k => e_iconst (v := 1) dX12_isSign_28 (by decide) (e_goto (tgt := 33) dX12_isSign_29 rfl k)) ?_
      refine es_sub [] rfl ?_
      exact t_X12_isSign_33 N 1 S r hf
    · rw [if_neg c12] at hf
      refine es_sub [] rfl ?_
      exact t_X12_isSign_32 N S r hf
  · rw [if_neg c11] at hf
    refine es_sub [] rfl ?_
    exact t_X12_isSign_32 N S r hf
def f_X12_isWord_33 (N : Nat)  (s0 : Int32) (S : xS) : Option xr :=
  if xbo s0 then
  some (.inl (some (.inl s0)), S)
  else none
set_option maxRecDepth 100000 in
set_option maxHeartbeats 4000000 in
theorem t_X12_isWord_33 {l : Launch} {w : xW} {g : Nat → xE} (N : Nat)   (s0 : Int32) (S : xS) (r : xr) (hf : f_X12_isWord_33 N  s0 S = some r) : ES l w g M_X12_isWord 33 [] [.int s0] S r := by
  unfold f_X12_isWord_33 at hf
  obtain ⟨g9, hf⟩ := xg hf
  exact es_ireturn (ty := .boolean) dX12_isWord_33 rfl (xbo_n g9) hf
def f_X12_isWord_32 (N : Nat)   (S : xS) : Option xr :=
  f_X12_isWord_33 N 0 S
set_option maxRecDepth 100000 in
set_option maxHeartbeats 4000000 in
theorem t_X12_isWord_32 {l : Launch} {w : xW} {g : Nat → xE} (N : Nat)    (S : xS) (r : xr) (hf : f_X12_isWord_32 N   S = some r) : ES l w g M_X12_isWord 32 [] [] S r := by
  unfold f_X12_isWord_32 at hf
  refine es_l (pc' := 33) (ls' := []) (st' := [.int 0]) (fun _ _ k => e_iconst (v := 0) dX12_isWord_32 (by decide) k) ?_
  exact t_X12_isWord_33 N 0 S r hf
def f_X12_isWord (N : Nat) (x1 : Int32) (S : xS) : Option xr :=
  if xin (S.1 503 20) 152 then
  if (S.1 514 ((S.1 503 20).toNatClampNeg)) = 3 then
    if (lg_cmp (S.2.1 516 ((S.1 503 20).toNatClampNeg)) ((x1 : Int32).toInt64)) = 0 then
      f_X12_isWord_33 N 1 S
    else
      f_X12_isWord_32 N S
  else
    f_X12_isWord_32 N S
  else none
set_option maxRecDepth 100000 in
set_option maxHeartbeats 4000000 in
theorem t_X12_isWord {l : Launch} {w : xW} {g : Nat → xE} (N : Nat) (x1 : Int32) (S : xS) (r : xr) (hf : f_X12_isWord N x1 S = some r) : ES l w g M_X12_isWord 0 (lv_args 0 [.ref (w.2.1 + 503), .int x1]) [] S r := by
  show ES l w g M_X12_isWord 0 [(0, .ref (w.2.1 + 503)), (1, .int x1)] [] S r
  unfold f_X12_isWord at hf
  refine es_l (pc' := 1) (ls' := [(0, .ref (w.2.1 + 503)), (1, .int x1)]) (st' := [.ref (w.2.1 + 503)]) (fun _ _ k => e_aload_n dX12_isWord_0 0 rfl k) ?_
  refine es_get (v := .ref (w.2.1 + 514)) xc_12 dX12_isWord_1 fl_X12_57 (by decide) (by decide) (cel_503 _ _ _) rfl ?_
  refine es_l (pc' := 5) (ls' := [(0, .ref (w.2.1 + 503)), (1, .int x1)]) (st' := [.ref (w.2.1 + 503), .ref (w.2.1 + 514)]) (fun _ _ k => e_aload_n dX12_isWord_4 0 rfl k) ?_
  refine es_get (v := .int (S.1 503 20)) xc_12 dX12_isWord_5 fl_X12_72 (by decide) (by decide) (cel_503 _ _ _) rfl ?_
  obtain ⟨g10, hf⟩ := xg hf
  refine es_iald (v := .int (S.1 514 ((S.1 503 20).toNatClampNeg))) dX12_isWord_8 (by decide) (cel_514 _ _ _) g10 rfl ?_
  refine es_l (pc' := 10) (ls' := [(0, .ref (w.2.1 + 503)), (1, .int x1)]) (st' := [.int 3, .int (S.1 514 ((S.1 503 20).toNatClampNeg))]) (fun _ _ k => e_iconst (v := 3) dX12_isWord_9 (by decide) k) ?_
  refine es_br (c := (S.1 514 ((S.1 503 20).toNatClampNeg)) = 3) (tgt := 13) (pf := 32) (st' := []) (fun _ _ a b => e_icmp_ne dX12_isWord_10 rfl b a) (fun c11 => ?_) (fun c11 => ?_)
  · rw [if_pos c11] at hf
    refine es_l (pc' := 14) (ls' := [(0, .ref (w.2.1 + 503)), (1, .int x1)]) (st' := [.ref (w.2.1 + 503)]) (fun _ _ k => e_aload_n dX12_isWord_13 0 rfl k) ?_
    refine es_get (v := .ref (w.2.1 + 516)) xc_12 dX12_isWord_14 fl_X12_63 (by decide) (by decide) (cel_503 _ _ _) rfl ?_
    refine es_l (pc' := 18) (ls' := [(0, .ref (w.2.1 + 503)), (1, .int x1)]) (st' := [.ref (w.2.1 + 503), .ref (w.2.1 + 516)]) (fun _ _ k => e_aload_n dX12_isWord_17 0 rfl k) ?_
    refine es_get (v := .int (S.1 503 20)) xc_12 dX12_isWord_18 fl_X12_72 (by decide) (by decide) (cel_503 _ _ _) rfl ?_
    refine es_lald (v := .long (S.2.1 516 ((S.1 503 20).toNatClampNeg))) dX12_isWord_21 (by decide) (cel_516 _ _ _) g10 rfl ?_
    refine es_l (pc' := 25) (ls' := [(0, .ref (w.2.1 + 503)), (1, .int x1)]) (st' := [.int (lg_cmp (S.2.1 516 ((S.1 503 20).toNatClampNeg)) ((x1 : Int32).toInt64))]) (fun _ _ k => e_iload_n dX12_isWord_22 1 rfl (e_i2l (v := (x1 : Int32).toInt64) dX12_isWord_23 rfl (e_lcmp dX12_isWord_24 k))) ?_
    refine es_br (c := (lg_cmp (S.2.1 516 ((S.1 503 20).toNatClampNeg)) ((x1 : Int32).toInt64)) = 0) (tgt := 28) (pf := 32) (st' := []) (fun _ _ a b => e_if_ne dX12_isWord_25 rfl b a) (fun c12 => ?_) (fun c12 => ?_)
    · rw [if_pos c12] at hf
      refine es_l (pc' := 33) (ls' := [(0, .ref (w.2.1 + 503)), (1, .int x1)]) (st' := [.int 1]) (fun _ _ k => e_iconst (v := 1) dX12_isWord_28 (by decide) (e_goto (tgt := 33) dX12_isWord_29 rfl k)) ?_
      refine es_sub [] rfl ?_
      exact t_X12_isWord_33 N 1 S r hf
    · rw [if_neg c12] at hf
      refine es_sub [] rfl ?_
      exact t_X12_isWord_32 N S r hf
  · rw [if_neg c11] at hf
    refine es_sub [] rfl ?_
    exact t_X12_isWord_32 N S r hf
def f_X12_sign (N : Nat) (x1 : Int32) (S : xS) : Option xr :=
  xcI (f_X12_isSign N x1 S) (fun v8 S7 =>
  if v8 = 0 then
    xcI (f_X12_wrong N S7) (fun v11 S10 =>
    if xbo v11 then
    some (.inl (some (.inl v11)), S10)
    else none
    )
  else
    some (.inl (some (.inl 1)), sI S7 503 20 ((S7.1 503 20) + 1))
  )
set_option maxRecDepth 100000 in
set_option maxHeartbeats 4000000 in
theorem t_X12_sign {l : Launch} {w : xW} {g : Nat → xE} (N : Nat) (x1 : Int32) (S : xS) (r : xr) (hf : f_X12_sign N x1 S = some r) : ES l w g M_X12_sign 0 (lv_args 0 [.ref (w.2.1 + 503), .int x1]) [] S r := by
  show ES l w g M_X12_sign 0 [(0, .ref (w.2.1 + 503)), (1, .int x1)] [] S r
  unfold f_X12_sign at hf
  refine es_l (pc' := 2) (ls' := [(0, .ref (w.2.1 + 503)), (1, .int x1)]) (st' := [.int x1, .ref (w.2.1 + 503)]) (fun _ _ k => e_aload_n dX12_sign_0 0 rfl (e_iload_n dX12_sign_1 1 rfl k)) ?_
  refine es_callVI (as := [.int x1]) (rest := []) hf xc_12 dX12_sign_2 cs_X12_sign_X12_isSign ml_X12_232 im_X12_isSign se_X12_isSign rfl rfl (Nat.le_of_ble_eq_true rfl) (Nat.le_of_ble_eq_true rfl) (by decide) rfl (cel_503 _ _ _) (fun _ e => t_X12_isSign N x1 S _ e) (by decide) (fun v8 S7 hf => ?_)
  refine es_br (c := v8 = 0) (tgt := 8) (pf := 13) (st' := []) (fun _ _ a b => e_if_ne dX12_sign_5 rfl b a) (fun c9 => ?_) (fun c9 => ?_)
  · rw [if_pos c9] at hf
    refine es_l (pc' := 9) (ls' := [(0, .ref (w.2.1 + 503)), (1, .int x1)]) (st' := [.ref (w.2.1 + 503)]) (fun _ _ k => e_aload_n dX12_sign_8 0 rfl k) ?_
    refine es_callVI (as := []) (rest := []) hf xc_12 dX12_sign_9 cs_X12_sign_X12_wrong ml_X12_235 im_X12_wrong se_X12_wrong rfl rfl (Nat.le_of_ble_eq_true rfl) (Nat.le_of_ble_eq_true rfl) (by decide) rfl (cel_503 _ _ _) (fun _ e => t_X12_wrong N  S7 _ e) (by decide) (fun v11 S10 hf => ?_)
    obtain ⟨g12, hf⟩ := xg hf
    exact es_ireturn (ty := .boolean) dX12_sign_12 rfl (xbo_n g12) hf
  · rw [if_neg c9] at hf
    refine es_l (pc' := 15) (ls' := [(0, .ref (w.2.1 + 503)), (1, .int x1)]) (st' := [.ref (w.2.1 + 503), .ref (w.2.1 + 503)]) (fun _ _ k => e_aload_n dX12_sign_13 0 rfl (e_dup dX12_sign_14 rfl k)) ?_
    refine es_get (v := .int (S7.1 503 20)) xc_12 dX12_sign_15 fl_X12_72 (by decide) (by decide) (cel_503 _ _ _) rfl ?_
    refine es_l (pc' := 20) (ls' := [(0, .ref (w.2.1 + 503)), (1, .int x1)]) (st' := [.int ((S7.1 503 20) + 1), .ref (w.2.1 + 503)]) (fun _ _ k => e_iconst (v := 1) dX12_sign_18 (by decide) (e_iadd dX12_sign_19 k)) ?_
    refine es_put xc_12 dX12_sign_20 fl_X12_72 (by decide) (by decide) (by decide) (cel_503 _ _ _) rfl rfl rfl rfl ?_
    refine es_l (pc' := 24) (ls' := [(0, .ref (w.2.1 + 503)), (1, .int x1)]) (st' := [.int 1]) (fun _ _ k => e_iconst (v := 1) dX12_sign_23 (by decide) k) ?_
    exact es_ireturn (ty := .boolean) dX12_sign_24 rfl rfl hf
def f_X12_keyword (N : Nat) (x1 : Int32) (S : xS) : Option xr :=
  xcI (f_X12_isWord N x1 S) (fun v8 S7 =>
  if v8 = 0 then
    xcI (f_X12_wrong N S7) (fun v11 S10 =>
    if xbo v11 then
    some (.inl (some (.inl v11)), S10)
    else none
    )
  else
    some (.inl (some (.inl 1)), sI S7 503 20 ((S7.1 503 20) + 1))
  )
set_option maxRecDepth 100000 in
set_option maxHeartbeats 4000000 in
theorem t_X12_keyword {l : Launch} {w : xW} {g : Nat → xE} (N : Nat) (x1 : Int32) (S : xS) (r : xr) (hf : f_X12_keyword N x1 S = some r) : ES l w g M_X12_keyword 0 (lv_args 0 [.ref (w.2.1 + 503), .int x1]) [] S r := by
  show ES l w g M_X12_keyword 0 [(0, .ref (w.2.1 + 503)), (1, .int x1)] [] S r
  unfold f_X12_keyword at hf
  refine es_l (pc' := 2) (ls' := [(0, .ref (w.2.1 + 503)), (1, .int x1)]) (st' := [.int x1, .ref (w.2.1 + 503)]) (fun _ _ k => e_aload_n dX12_keyword_0 0 rfl (e_iload_n dX12_keyword_1 1 rfl k)) ?_
  refine es_callVI (as := [.int x1]) (rest := []) hf xc_12 dX12_keyword_2 cs_X12_keyword_X12_isWord ml_X12_239 im_X12_isWord se_X12_isWord rfl rfl (Nat.le_of_ble_eq_true rfl) (Nat.le_of_ble_eq_true rfl) (by decide) rfl (cel_503 _ _ _) (fun _ e => t_X12_isWord N x1 S _ e) (by decide) (fun v8 S7 hf => ?_)
  refine es_br (c := v8 = 0) (tgt := 8) (pf := 13) (st' := []) (fun _ _ a b => e_if_ne dX12_keyword_5 rfl b a) (fun c9 => ?_) (fun c9 => ?_)
  · rw [if_pos c9] at hf
    refine es_l (pc' := 9) (ls' := [(0, .ref (w.2.1 + 503)), (1, .int x1)]) (st' := [.ref (w.2.1 + 503)]) (fun _ _ k => e_aload_n dX12_keyword_8 0 rfl k) ?_
    refine es_callVI (as := []) (rest := []) hf xc_12 dX12_keyword_9 cs_X12_keyword_X12_wrong ml_X12_235 im_X12_wrong se_X12_wrong rfl rfl (Nat.le_of_ble_eq_true rfl) (Nat.le_of_ble_eq_true rfl) (by decide) rfl (cel_503 _ _ _) (fun _ e => t_X12_wrong N  S7 _ e) (by decide) (fun v11 S10 hf => ?_)
    obtain ⟨g12, hf⟩ := xg hf
    exact es_ireturn (ty := .boolean) dX12_keyword_12 rfl (xbo_n g12) hf
  · rw [if_neg c9] at hf
    refine es_l (pc' := 15) (ls' := [(0, .ref (w.2.1 + 503)), (1, .int x1)]) (st' := [.ref (w.2.1 + 503), .ref (w.2.1 + 503)]) (fun _ _ k => e_aload_n dX12_keyword_13 0 rfl (e_dup dX12_keyword_14 rfl k)) ?_
    refine es_get (v := .int (S7.1 503 20)) xc_12 dX12_keyword_15 fl_X12_72 (by decide) (by decide) (cel_503 _ _ _) rfl ?_
    refine es_l (pc' := 20) (ls' := [(0, .ref (w.2.1 + 503)), (1, .int x1)]) (st' := [.int ((S7.1 503 20) + 1), .ref (w.2.1 + 503)]) (fun _ _ k => e_iconst (v := 1) dX12_keyword_18 (by decide) (e_iadd dX12_keyword_19 k)) ?_
    refine es_put xc_12 dX12_keyword_20 fl_X12_72 (by decide) (by decide) (by decide) (cel_503 _ _ _) rfl rfl rfl rfl ?_
    refine es_l (pc' := 24) (ls' := [(0, .ref (w.2.1 + 503)), (1, .int x1)]) (st' := [.int 1]) (fun _ _ k => e_iconst (v := 1) dX12_keyword_23 (by decide) k) ?_
    exact es_ireturn (ty := .boolean) dX12_keyword_24 rfl rfl hf
def f_X12_kindOf_2 (N : Nat)  : Nat → Int64 → Int32 → xS → Option xr
  | 0, _, _, _ => none
  | n + 1, y1, x3, S =>
  if (S.1 503 3) ≤ x3 then
    some (.inl (some (.inl ((-1)))), S)
  else
    if xin x3 7 then
    if (lg_cmp (S.2.1 505 x3.toNatClampNeg) y1) = 0 then
      some (.inl (some (.inl x3)), S)
    else
      f_X12_kindOf_2 N n y1 (x3 + 1) S
    else none
set_option maxRecDepth 100000 in
set_option maxHeartbeats 4000000 in
theorem t_X12_kindOf_2 {l : Launch} {w : xW} {g : Nat → xE} (N : Nat)   : ∀ (n : Nat) (y1 : Int64) (x3 : Int32) (S : xS) (r : xr), f_X12_kindOf_2 N  n y1 x3 S = some r → ES l w g M_X12_kindOf 2 [(0, .ref (w.2.1 + 503)), (1, .long y1), (3, .int x3)] [] S r := by
  intro n
  induction n with
  | zero => intro y1 x3 S r hf; cases hf
  | succ n ih =>
    intro y1 x3 S r hf
    rw [f_X12_kindOf_2.eq_2] at hf
    refine es_l (pc' := 4) (ls' := [(0, .ref (w.2.1 + 503)), (1, .long y1), (3, .int x3)]) (st' := [.ref (w.2.1 + 503), .int x3]) (fun _ _ k => e_iload_n dX12_kindOf_2 2 rfl (e_aload_n dX12_kindOf_3 0 rfl k)) ?_
    refine es_get (v := .int (S.1 503 3)) xc_12 dX12_kindOf_4 fl_X12_20 (by decide) (by decide) (cel_503 _ _ _) rfl ?_
    refine es_br (c := (S.1 503 3) ≤ x3) (tgt := 29) (pf := 10) (st' := []) (fun _ _ a b => e_icmp_ge dX12_kindOf_7 rfl a b) (fun c7 => ?_) (fun c7 => ?_)
    · rw [if_pos c7] at hf
      refine es_l (pc' := 30) (ls' := [(0, .ref (w.2.1 + 503)), (1, .long y1), (3, .int x3)]) (st' := [.int ((-1))]) (fun _ _ k => e_iconst (v := (-1)) dX12_kindOf_29 (by decide) k) ?_
      exact es_ireturn (ty := .int) dX12_kindOf_30 rfl rfl hf
    · rw [if_neg c7] at hf
      refine es_l (pc' := 11) (ls' := [(0, .ref (w.2.1 + 503)), (1, .long y1), (3, .int x3)]) (st' := [.ref (w.2.1 + 503)]) (fun _ _ k => e_aload_n dX12_kindOf_10 0 rfl k) ?_
      refine es_get (v := .ref (w.2.1 + 505)) xc_12 dX12_kindOf_11 fl_X12_23 (by decide) (by decide) (cel_503 _ _ _) rfl ?_
      refine es_l (pc' := 15) (ls' := [(0, .ref (w.2.1 + 503)), (1, .long y1), (3, .int x3)]) (st' := [.int x3, .ref (w.2.1 + 505)]) (fun _ _ k => e_iload_n dX12_kindOf_14 2 rfl k) ?_
      obtain ⟨g8, hf⟩ := xg hf
      refine es_lald (v := .long (S.2.1 505 x3.toNatClampNeg)) dX12_kindOf_15 (by decide) (cel_505 _ _ _) g8 rfl ?_
      refine es_l (pc' := 18) (ls' := [(0, .ref (w.2.1 + 503)), (1, .long y1), (3, .int x3)]) (st' := [.int (lg_cmp (S.2.1 505 x3.toNatClampNeg) y1)]) (fun _ _ k => e_lload_n dX12_kindOf_16 1 rfl (e_lcmp dX12_kindOf_17 k)) ?_
      refine es_br (c := (lg_cmp (S.2.1 505 x3.toNatClampNeg) y1) = 0) (tgt := 21) (pf := 23) (st' := []) (fun _ _ a b => e_if_ne dX12_kindOf_18 rfl b a) (fun c9 => ?_) (fun c9 => ?_)
      · rw [if_pos c9] at hf
        refine es_l (pc' := 22) (ls' := [(0, .ref (w.2.1 + 503)), (1, .long y1), (3, .int x3)]) (st' := [.int x3]) (fun _ _ k => e_iload_n dX12_kindOf_21 2 rfl k) ?_
        exact es_ireturn (ty := .int) dX12_kindOf_22 rfl rfl hf
      · rw [if_neg c9] at hf
        refine es_l (pc' := 2) (ls' := [(3, .int (x3 + 1)), (0, .ref (w.2.1 + 503)), (1, .long y1)]) (st' := []) (fun _ _ k => e_iinc (v := x3 + 1) (ls' := [(3, .int (x3 + 1)), (0, .ref (w.2.1 + 503)), (1, .long y1)]) dX12_kindOf_23 2 rfl rfl (by decide) rfl (e_goto (tgt := 2) dX12_kindOf_26 rfl k)) ?_
        refine es_sub [1, 2, 0] rfl ?_
        exact ih y1 (x3 + 1) S r hf
def f_X12_kindOf (N : Nat) (y1 : Int64) (S : xS) : Option xr :=
  f_X12_kindOf_2 N N y1 0 S
set_option maxRecDepth 100000 in
set_option maxHeartbeats 4000000 in
theorem t_X12_kindOf {l : Launch} {w : xW} {g : Nat → xE} (N : Nat) (y1 : Int64) (S : xS) (r : xr) (hf : f_X12_kindOf N y1 S = some r) : ES l w g M_X12_kindOf 0 (lv_args 0 [.ref (w.2.1 + 503), .long y1]) [] S r := by
  show ES l w g M_X12_kindOf 0 [(0, .ref (w.2.1 + 503)), (1, .long y1)] [] S r
  unfold f_X12_kindOf at hf
  refine es_l (pc' := 2) (ls' := [(3, .int 0), (0, .ref (w.2.1 + 503)), (1, .long y1)]) (st' := []) (fun _ _ k => e_iconst (v := 0) dX12_kindOf_0 (by decide) (e_istore_n (ls' := [(3, .int 0), (0, .ref (w.2.1 + 503)), (1, .long y1)]) dX12_kindOf_1 (by decide) rfl k)) ?_
  refine es_sub [1, 2, 0] rfl ?_
  exact t_X12_kindOf_2 N N y1 0 S r hf
def f_X12_varOf_2 (N : Nat)  : Nat → Int64 → Int32 → xS → Option xr
  | 0, _, _, _ => none
  | n + 1, y1, x3, S =>
  if (S.1 503 8) ≤ x3 then
    some (.inl (some (.inl ((-1)))), S)
  else
    if xin x3 20 then
    if (lg_cmp (S.2.1 509 x3.toNatClampNeg) y1) = 0 then
      some (.inl (some (.inl x3)), S)
    else
      f_X12_varOf_2 N n y1 (x3 + 1) S
    else none
set_option maxRecDepth 100000 in
set_option maxHeartbeats 4000000 in
theorem t_X12_varOf_2 {l : Launch} {w : xW} {g : Nat → xE} (N : Nat)   : ∀ (n : Nat) (y1 : Int64) (x3 : Int32) (S : xS) (r : xr), f_X12_varOf_2 N  n y1 x3 S = some r → ES l w g M_X12_varOf 2 [(0, .ref (w.2.1 + 503)), (1, .long y1), (3, .int x3)] [] S r := by
  intro n
  induction n with
  | zero => intro y1 x3 S r hf; cases hf
  | succ n ih =>
    intro y1 x3 S r hf
    rw [f_X12_varOf_2.eq_2] at hf
    refine es_l (pc' := 4) (ls' := [(0, .ref (w.2.1 + 503)), (1, .long y1), (3, .int x3)]) (st' := [.ref (w.2.1 + 503), .int x3]) (fun _ _ k => e_iload_n dX12_varOf_2 2 rfl (e_aload_n dX12_varOf_3 0 rfl k)) ?_
    refine es_get (v := .int (S.1 503 8)) xc_12 dX12_varOf_4 fl_X12_36 (by decide) (by decide) (cel_503 _ _ _) rfl ?_
    refine es_br (c := (S.1 503 8) ≤ x3) (tgt := 29) (pf := 10) (st' := []) (fun _ _ a b => e_icmp_ge dX12_varOf_7 rfl a b) (fun c7 => ?_) (fun c7 => ?_)
    · rw [if_pos c7] at hf
      refine es_l (pc' := 30) (ls' := [(0, .ref (w.2.1 + 503)), (1, .long y1), (3, .int x3)]) (st' := [.int ((-1))]) (fun _ _ k => e_iconst (v := (-1)) dX12_varOf_29 (by decide) k) ?_
      exact es_ireturn (ty := .int) dX12_varOf_30 rfl rfl hf
    · rw [if_neg c7] at hf
      refine es_l (pc' := 11) (ls' := [(0, .ref (w.2.1 + 503)), (1, .long y1), (3, .int x3)]) (st' := [.ref (w.2.1 + 503)]) (fun _ _ k => e_aload_n dX12_varOf_10 0 rfl k) ?_
      refine es_get (v := .ref (w.2.1 + 509)) xc_12 dX12_varOf_11 fl_X12_39 (by decide) (by decide) (cel_503 _ _ _) rfl ?_
      refine es_l (pc' := 15) (ls' := [(0, .ref (w.2.1 + 503)), (1, .long y1), (3, .int x3)]) (st' := [.int x3, .ref (w.2.1 + 509)]) (fun _ _ k => e_iload_n dX12_varOf_14 2 rfl k) ?_
      obtain ⟨g8, hf⟩ := xg hf
      refine es_lald (v := .long (S.2.1 509 x3.toNatClampNeg)) dX12_varOf_15 (by decide) (cel_509 _ _ _) g8 rfl ?_
      refine es_l (pc' := 18) (ls' := [(0, .ref (w.2.1 + 503)), (1, .long y1), (3, .int x3)]) (st' := [.int (lg_cmp (S.2.1 509 x3.toNatClampNeg) y1)]) (fun _ _ k => e_lload_n dX12_varOf_16 1 rfl (e_lcmp dX12_varOf_17 k)) ?_
      refine es_br (c := (lg_cmp (S.2.1 509 x3.toNatClampNeg) y1) = 0) (tgt := 21) (pf := 23) (st' := []) (fun _ _ a b => e_if_ne dX12_varOf_18 rfl b a) (fun c9 => ?_) (fun c9 => ?_)
      · rw [if_pos c9] at hf
        refine es_l (pc' := 22) (ls' := [(0, .ref (w.2.1 + 503)), (1, .long y1), (3, .int x3)]) (st' := [.int x3]) (fun _ _ k => e_iload_n dX12_varOf_21 2 rfl k) ?_
        exact es_ireturn (ty := .int) dX12_varOf_22 rfl rfl hf
      · rw [if_neg c9] at hf
        refine es_l (pc' := 2) (ls' := [(3, .int (x3 + 1)), (0, .ref (w.2.1 + 503)), (1, .long y1)]) (st' := []) (fun _ _ k => e_iinc (v := x3 + 1) (ls' := [(3, .int (x3 + 1)), (0, .ref (w.2.1 + 503)), (1, .long y1)]) dX12_varOf_23 2 rfl rfl (by decide) rfl (e_goto (tgt := 2) dX12_varOf_26 rfl k)) ?_
        refine es_sub [1, 2, 0] rfl ?_
        exact ih y1 (x3 + 1) S r hf
def f_X12_varOf (N : Nat) (y1 : Int64) (S : xS) : Option xr :=
  f_X12_varOf_2 N N y1 0 S
set_option maxRecDepth 100000 in
set_option maxHeartbeats 4000000 in
theorem t_X12_varOf {l : Launch} {w : xW} {g : Nat → xE} (N : Nat) (y1 : Int64) (S : xS) (r : xr) (hf : f_X12_varOf N y1 S = some r) : ES l w g M_X12_varOf 0 (lv_args 0 [.ref (w.2.1 + 503), .long y1]) [] S r := by
  show ES l w g M_X12_varOf 0 [(0, .ref (w.2.1 + 503)), (1, .long y1)] [] S r
  unfold f_X12_varOf at hf
  refine es_l (pc' := 2) (ls' := [(3, .int 0), (0, .ref (w.2.1 + 503)), (1, .long y1)]) (st' := []) (fun _ _ k => e_iconst (v := 0) dX12_varOf_0 (by decide) (e_istore_n (ls' := [(3, .int 0), (0, .ref (w.2.1 + 503)), (1, .long y1)]) dX12_varOf_1 (by decide) rfl k)) ?_
  refine es_sub [1, 2, 0] rfl ?_
  exact t_X12_varOf_2 N N y1 0 S r hf
def f_X12_fieldOf_3 (N : Nat)  : Nat → Int32 → Int64 → Int32 → xS → Option xr
  | 0, _, _, _, _ => none
  | n + 1, x1, y2, x4, S =>
  if xin x1 7 then
  if (S.1 506 x1.toNatClampNeg) ≤ x4 then
    some (.inl (some (.inl ((-1)))), S)
  else
    if xin ((6 * x1) + x4) 42 then
    if (lg_cmp (S.2.1 507 (((6 * x1) + x4).toNatClampNeg)) y2) = 0 then
      some (.inl (some (.inl x4)), S)
    else
      f_X12_fieldOf_3 N n x1 y2 (x4 + 1) S
    else none
  else none
set_option maxRecDepth 100000 in
set_option maxHeartbeats 4000000 in
theorem t_X12_fieldOf_3 {l : Launch} {w : xW} {g : Nat → xE} (N : Nat)   : ∀ (n : Nat) (x1 : Int32) (y2 : Int64) (x4 : Int32) (S : xS) (r : xr), f_X12_fieldOf_3 N  n x1 y2 x4 S = some r → ES l w g M_X12_fieldOf 3 [(0, .ref (w.2.1 + 503)), (1, .int x1), (2, .long y2), (4, .int x4)] [] S r := by
  intro n
  induction n with
  | zero => intro x1 y2 x4 S r hf; cases hf
  | succ n ih =>
    intro x1 y2 x4 S r hf
    rw [f_X12_fieldOf_3.eq_2] at hf
    refine es_l (pc' := 6) (ls' := [(0, .ref (w.2.1 + 503)), (1, .int x1), (2, .long y2), (4, .int x4)]) (st' := [.ref (w.2.1 + 503), .int x4]) (fun _ _ k => e_iload dX12_fieldOf_3 3 rfl (e_aload_n dX12_fieldOf_5 0 rfl k)) ?_
    refine es_get (v := .ref (w.2.1 + 506)) xc_12 dX12_fieldOf_6 fl_X12_27 (by decide) (by decide) (cel_503 _ _ _) rfl ?_
    refine es_l (pc' := 10) (ls' := [(0, .ref (w.2.1 + 503)), (1, .int x1), (2, .long y2), (4, .int x4)]) (st' := [.int x1, .ref (w.2.1 + 506), .int x4]) (fun _ _ k => e_iload_n dX12_fieldOf_9 1 rfl k) ?_
    obtain ⟨g9, hf⟩ := xg hf
    refine es_iald (v := .int (S.1 506 x1.toNatClampNeg)) dX12_fieldOf_10 (by decide) (cel_506 _ _ _) g9 rfl ?_
    refine es_br (c := (S.1 506 x1.toNatClampNeg) ≤ x4) (tgt := 40) (pf := 14) (st' := []) (fun _ _ a b => e_icmp_ge dX12_fieldOf_11 rfl a b) (fun c10 => ?_) (fun c10 => ?_)
    · rw [if_pos c10] at hf
      refine es_l (pc' := 41) (ls' := [(0, .ref (w.2.1 + 503)), (1, .int x1), (2, .long y2), (4, .int x4)]) (st' := [.int ((-1))]) (fun _ _ k => e_iconst (v := (-1)) dX12_fieldOf_40 (by decide) k) ?_
      exact es_ireturn (ty := .int) dX12_fieldOf_41 rfl rfl hf
    · rw [if_neg c10] at hf
      refine es_l (pc' := 15) (ls' := [(0, .ref (w.2.1 + 503)), (1, .int x1), (2, .long y2), (4, .int x4)]) (st' := [.ref (w.2.1 + 503)]) (fun _ _ k => e_aload_n dX12_fieldOf_14 0 rfl k) ?_
      refine es_get (v := .ref (w.2.1 + 507)) xc_12 dX12_fieldOf_15 fl_X12_30 (by decide) (by decide) (cel_503 _ _ _) rfl ?_
      refine es_l (pc' := 25) (ls' := [(0, .ref (w.2.1 + 503)), (1, .int x1), (2, .long y2), (4, .int x4)]) (st' := [.int ((6 * x1) + x4), .ref (w.2.1 + 507)]) (fun _ _ k => e_bipush (v := 6) dX12_fieldOf_18 (by decide) (e_iload_n dX12_fieldOf_20 1 rfl (e_imul dX12_fieldOf_21 (e_iload dX12_fieldOf_22 3 rfl (e_iadd dX12_fieldOf_24 k))))) ?_
      obtain ⟨g11, hf⟩ := xg hf
      refine es_lald (v := .long (S.2.1 507 (((6 * x1) + x4).toNatClampNeg))) dX12_fieldOf_25 (by decide) (cel_507 _ _ _) g11 rfl ?_
      refine es_l (pc' := 28) (ls' := [(0, .ref (w.2.1 + 503)), (1, .int x1), (2, .long y2), (4, .int x4)]) (st' := [.int (lg_cmp (S.2.1 507 (((6 * x1) + x4).toNatClampNeg)) y2)]) (fun _ _ k => e_lload_n dX12_fieldOf_26 2 rfl (e_lcmp dX12_fieldOf_27 k)) ?_
      refine es_br (c := (lg_cmp (S.2.1 507 (((6 * x1) + x4).toNatClampNeg)) y2) = 0) (tgt := 31) (pf := 34) (st' := []) (fun _ _ a b => e_if_ne dX12_fieldOf_28 rfl b a) (fun c12 => ?_) (fun c12 => ?_)
      · rw [if_pos c12] at hf
        refine es_l (pc' := 33) (ls' := [(0, .ref (w.2.1 + 503)), (1, .int x1), (2, .long y2), (4, .int x4)]) (st' := [.int x4]) (fun _ _ k => e_iload dX12_fieldOf_31 3 rfl k) ?_
        exact es_ireturn (ty := .int) dX12_fieldOf_33 rfl rfl hf
      · rw [if_neg c12] at hf
        refine es_l (pc' := 3) (ls' := [(4, .int (x4 + 1)), (0, .ref (w.2.1 + 503)), (1, .int x1), (2, .long y2)]) (st' := []) (fun _ _ k => e_iinc (v := x4 + 1) (ls' := [(4, .int (x4 + 1)), (0, .ref (w.2.1 + 503)), (1, .int x1), (2, .long y2)]) dX12_fieldOf_34 3 rfl rfl (by decide) rfl (e_goto (tgt := 3) dX12_fieldOf_37 rfl k)) ?_
        refine es_sub [1, 2, 3, 0] rfl ?_
        exact ih x1 y2 (x4 + 1) S r hf
def f_X12_fieldOf (N : Nat) (x1 : Int32) (y2 : Int64) (S : xS) : Option xr :=
  f_X12_fieldOf_3 N N x1 y2 0 S
set_option maxRecDepth 100000 in
set_option maxHeartbeats 4000000 in
theorem t_X12_fieldOf {l : Launch} {w : xW} {g : Nat → xE} (N : Nat) (x1 : Int32) (y2 : Int64) (S : xS) (r : xr) (hf : f_X12_fieldOf N x1 y2 S = some r) : ES l w g M_X12_fieldOf 0 (lv_args 0 [.ref (w.2.1 + 503), .int x1, .long y2]) [] S r := by
  show ES l w g M_X12_fieldOf 0 [(0, .ref (w.2.1 + 503)), (1, .int x1), (2, .long y2)] [] S r
  unfold f_X12_fieldOf at hf
  refine es_l (pc' := 3) (ls' := [(4, .int 0), (0, .ref (w.2.1 + 503)), (1, .int x1), (2, .long y2)]) (st' := []) (fun _ _ k => e_iconst (v := 0) dX12_fieldOf_0 (by decide) (e_istore (ls' := [(4, .int 0), (0, .ref (w.2.1 + 503)), (1, .int x1), (2, .long y2)]) dX12_fieldOf_1 (by decide) rfl k)) ?_
  refine es_sub [1, 2, 3, 0] rfl ?_
  exact t_X12_fieldOf_3 N N x1 y2 0 S r hf
def f_X12_takeKind_53 (N : Nat)  (x1 : Int32) (S : xS) : Option xr :=
  some (.inl (some (.inl x1)), S)
set_option maxRecDepth 100000 in
set_option maxHeartbeats 4000000 in
theorem t_X12_takeKind_53 {l : Launch} {w : xW} {g : Nat → xE} (N : Nat)   (x1 : Int32) (S : xS) (r : xr) (hf : f_X12_takeKind_53 N  x1 S = some r) : ES l w g M_X12_takeKind 53 [(1, .int x1)] [] S r := by
  unfold f_X12_takeKind_53 at hf
  refine es_l (pc' := 54) (ls' := [(1, .int x1)]) (st' := [.int x1]) (fun _ _ k => e_iload_n dX12_takeKind_53 0 rfl k) ?_
  exact es_ireturn (ty := .int) dX12_takeKind_54 rfl rfl hf
def f_X12_takeKind_30 (N : Nat)  (s0 : Int32) (S : xS) : Option xr :=
  if 0 ≤ s0 then
    f_X12_takeKind_53 N s0 (sI S 503 20 ((S.1 503 20) + 1))
  else
    xcI (f_X12_wrong N S) (fun v17 S16 =>
    f_X12_takeKind_53 N s0 S16
    )
set_option maxRecDepth 100000 in
set_option maxHeartbeats 4000000 in
theorem t_X12_takeKind_30 {l : Launch} {w : xW} {g : Nat → xE} (N : Nat)   (s0 : Int32) (S : xS) (r : xr) (hf : f_X12_takeKind_30 N  s0 S = some r) : ES l w g M_X12_takeKind 30 [(0, .ref (w.2.1 + 503))] [.int s0] S r := by
  unfold f_X12_takeKind_30 at hf
  refine es_l (pc' := 32) (ls' := [(1, .int s0), (0, .ref (w.2.1 + 503))]) (st' := [.int s0]) (fun _ _ k => e_istore_n (ls' := [(1, .int s0), (0, .ref (w.2.1 + 503))]) dX12_takeKind_30 (by decide) rfl (e_iload_n dX12_takeKind_31 0 rfl k)) ?_
  refine es_br (c := 0 ≤ s0) (tgt := 43) (pf := 35) (st' := []) (fun _ _ a b => e_if_ge dX12_takeKind_32 rfl a b) (fun c15 => ?_) (fun c15 => ?_)
  · rw [if_pos c15] at hf
    refine es_l (pc' := 45) (ls' := [(1, .int s0), (0, .ref (w.2.1 + 503))]) (st' := [.ref (w.2.1 + 503), .ref (w.2.1 + 503)]) (fun _ _ k => e_aload_n dX12_takeKind_43 1 rfl (e_dup dX12_takeKind_44 rfl k)) ?_
    refine es_get (v := .int (S.1 503 20)) xc_12 dX12_takeKind_45 fl_X12_72 (by decide) (by decide) (cel_503 _ _ _) rfl ?_
    refine es_l (pc' := 50) (ls' := [(1, .int s0), (0, .ref (w.2.1 + 503))]) (st' := [.int ((S.1 503 20) + 1), .ref (w.2.1 + 503)]) (fun _ _ k => e_iconst (v := 1) dX12_takeKind_48 (by decide) (e_iadd dX12_takeKind_49 k)) ?_
    refine es_put xc_12 dX12_takeKind_50 fl_X12_72 (by decide) (by decide) (by decide) (cel_503 _ _ _) rfl rfl rfl rfl ?_
    refine es_sub [0] rfl ?_
    exact t_X12_takeKind_53 N s0 (sI S 503 20 ((S.1 503 20) + 1)) r hf
  · rw [if_neg c15] at hf
    refine es_l (pc' := 36) (ls' := [(1, .int s0), (0, .ref (w.2.1 + 503))]) (st' := [.ref (w.2.1 + 503)]) (fun _ _ k => e_aload_n dX12_takeKind_35 1 rfl k) ?_
    refine es_callVI (as := []) (rest := []) hf xc_12 dX12_takeKind_36 cs_X12_takeKind_X12_wrong ml_X12_235 im_X12_wrong se_X12_wrong rfl rfl (Nat.le_of_ble_eq_true rfl) (Nat.le_of_ble_eq_true rfl) (by decide) rfl (cel_503 _ _ _) (fun _ e => t_X12_wrong N  S _ e) (by decide) (fun v17 S16 hf => ?_)
    refine es_l (pc' := 53) (ls' := [(1, .int s0), (0, .ref (w.2.1 + 503))]) (st' := []) (fun _ _ k => e_pop dX12_takeKind_39 rfl (e_goto (tgt := 53) dX12_takeKind_40 rfl k)) ?_
    refine es_sub [0] rfl ?_
    exact t_X12_takeKind_53 N s0 S16 r hf
def f_X12_takeKind (N : Nat)  (S : xS) : Option xr :=
  if xin (S.1 503 20) 152 then
  if (S.1 514 ((S.1 503 20).toNatClampNeg)) = 1 then
    xcI (f_X12_kindOf N (S.2.1 516 ((S.1 503 20).toNatClampNeg)) S) (fun v21 S20 =>
    f_X12_takeKind_30 N v21 S20
    )
  else
    f_X12_takeKind_30 N ((-1)) S
  else none
set_option maxRecDepth 100000 in
set_option maxHeartbeats 4000000 in
theorem t_X12_takeKind {l : Launch} {w : xW} {g : Nat → xE} (N : Nat)  (S : xS) (r : xr) (hf : f_X12_takeKind N  S = some r) : ES l w g M_X12_takeKind 0 (lv_args 0 [.ref (w.2.1 + 503)]) [] S r := by
  show ES l w g M_X12_takeKind 0 [(0, .ref (w.2.1 + 503))] [] S r
  unfold f_X12_takeKind at hf
  refine es_l (pc' := 1) (ls' := [(0, .ref (w.2.1 + 503))]) (st' := [.ref (w.2.1 + 503)]) (fun _ _ k => e_aload_n dX12_takeKind_0 0 rfl k) ?_
  refine es_get (v := .ref (w.2.1 + 514)) xc_12 dX12_takeKind_1 fl_X12_57 (by decide) (by decide) (cel_503 _ _ _) rfl ?_
  refine es_l (pc' := 5) (ls' := [(0, .ref (w.2.1 + 503))]) (st' := [.ref (w.2.1 + 503), .ref (w.2.1 + 514)]) (fun _ _ k => e_aload_n dX12_takeKind_4 0 rfl k) ?_
  refine es_get (v := .int (S.1 503 20)) xc_12 dX12_takeKind_5 fl_X12_72 (by decide) (by decide) (cel_503 _ _ _) rfl ?_
  obtain ⟨g18, hf⟩ := xg hf
  refine es_iald (v := .int (S.1 514 ((S.1 503 20).toNatClampNeg))) dX12_takeKind_8 (by decide) (cel_514 _ _ _) g18 rfl ?_
  refine es_l (pc' := 10) (ls' := [(0, .ref (w.2.1 + 503))]) (st' := [.int 1, .int (S.1 514 ((S.1 503 20).toNatClampNeg))]) (fun _ _ k => e_iconst (v := 1) dX12_takeKind_9 (by decide) k) ?_
  refine es_br (c := (S.1 514 ((S.1 503 20).toNatClampNeg)) = 1) (tgt := 13) (pf := 29) (st' := []) (fun _ _ a b => e_icmp_ne dX12_takeKind_10 rfl b a) (fun c19 => ?_) (fun c19 => ?_)
  · rw [if_pos c19] at hf
    refine es_l (pc' := 15) (ls' := [(0, .ref (w.2.1 + 503))]) (st' := [.ref (w.2.1 + 503), .ref (w.2.1 + 503)]) (fun _ _ k => e_aload_n dX12_takeKind_13 0 rfl (e_aload_n dX12_takeKind_14 0 rfl k)) ?_
    refine es_get (v := .ref (w.2.1 + 516)) xc_12 dX12_takeKind_15 fl_X12_63 (by decide) (by decide) (cel_503 _ _ _) rfl ?_
    refine es_l (pc' := 19) (ls' := [(0, .ref (w.2.1 + 503))]) (st' := [.ref (w.2.1 + 503), .ref (w.2.1 + 516), .ref (w.2.1 + 503)]) (fun _ _ k => e_aload_n dX12_takeKind_18 0 rfl k) ?_
    refine es_get (v := .int (S.1 503 20)) xc_12 dX12_takeKind_19 fl_X12_72 (by decide) (by decide) (cel_503 _ _ _) rfl ?_
    refine es_lald (v := .long (S.2.1 516 ((S.1 503 20).toNatClampNeg))) dX12_takeKind_22 (by decide) (cel_516 _ _ _) g18 rfl ?_
    refine es_callVI (as := [.long (S.2.1 516 ((S.1 503 20).toNatClampNeg))]) (rest := []) hf xc_12 dX12_takeKind_23 cs_X12_takeKind_X12_kindOf ml_X12_242 im_X12_kindOf se_X12_kindOf rfl rfl (Nat.le_of_ble_eq_true rfl) (Nat.le_of_ble_eq_true rfl) (by decide) rfl (cel_503 _ _ _) (fun _ e => t_X12_kindOf N (S.2.1 516 ((S.1 503 20).toNatClampNeg)) S _ e) (by decide) (fun v21 S20 hf => ?_)
    refine es_l (pc' := 30) (ls' := [(0, .ref (w.2.1 + 503))]) (st' := [.int v21]) (fun _ _ k => e_goto (tgt := 30) dX12_takeKind_26 rfl k) ?_
    exact t_X12_takeKind_30 N v21 S20 r hf
  · rw [if_neg c19] at hf
    refine es_l (pc' := 30) (ls' := [(0, .ref (w.2.1 + 503))]) (st' := [.int ((-1))]) (fun _ _ k => e_iconst (v := (-1)) dX12_takeKind_29 (by decide) k) ?_
    exact t_X12_takeKind_30 N ((-1)) S r hf
def f_X12_takeField_54 (N : Nat)  (x2 : Int32) (S : xS) : Option xr :=
  some (.inl (some (.inl x2)), S)
set_option maxRecDepth 100000 in
set_option maxHeartbeats 4000000 in
theorem t_X12_takeField_54 {l : Launch} {w : xW} {g : Nat → xE} (N : Nat)   (x2 : Int32) (S : xS) (r : xr) (hf : f_X12_takeField_54 N  x2 S = some r) : ES l w g M_X12_takeField 54 [(2, .int x2)] [] S r := by
  unfold f_X12_takeField_54 at hf
  refine es_l (pc' := 55) (ls' := [(2, .int x2)]) (st' := [.int x2]) (fun _ _ k => e_iload_n dX12_takeField_54 0 rfl k) ?_
  exact es_ireturn (ty := .int) dX12_takeField_55 rfl rfl hf
def f_X12_takeField_31 (N : Nat)  (s0 : Int32) (S : xS) : Option xr :=
  if 0 ≤ s0 then
    f_X12_takeField_54 N s0 (sI S 503 20 ((S.1 503 20) + 1))
  else
    xcI (f_X12_wrong N S) (fun v17 S16 =>
    f_X12_takeField_54 N s0 S16
    )
set_option maxRecDepth 100000 in
set_option maxHeartbeats 4000000 in
theorem t_X12_takeField_31 {l : Launch} {w : xW} {g : Nat → xE} (N : Nat)   (s0 : Int32) (S : xS) (r : xr) (hf : f_X12_takeField_31 N  s0 S = some r) : ES l w g M_X12_takeField 31 [(0, .ref (w.2.1 + 503))] [.int s0] S r := by
  unfold f_X12_takeField_31 at hf
  refine es_l (pc' := 33) (ls' := [(2, .int s0), (0, .ref (w.2.1 + 503))]) (st' := [.int s0]) (fun _ _ k => e_istore_n (ls' := [(2, .int s0), (0, .ref (w.2.1 + 503))]) dX12_takeField_31 (by decide) rfl (e_iload_n dX12_takeField_32 0 rfl k)) ?_
  refine es_br (c := 0 ≤ s0) (tgt := 44) (pf := 36) (st' := []) (fun _ _ a b => e_if_ge dX12_takeField_33 rfl a b) (fun c15 => ?_) (fun c15 => ?_)
  · rw [if_pos c15] at hf
    refine es_l (pc' := 46) (ls' := [(2, .int s0), (0, .ref (w.2.1 + 503))]) (st' := [.ref (w.2.1 + 503), .ref (w.2.1 + 503)]) (fun _ _ k => e_aload_n dX12_takeField_44 1 rfl (e_dup dX12_takeField_45 rfl k)) ?_
    refine es_get (v := .int (S.1 503 20)) xc_12 dX12_takeField_46 fl_X12_72 (by decide) (by decide) (cel_503 _ _ _) rfl ?_
    refine es_l (pc' := 51) (ls' := [(2, .int s0), (0, .ref (w.2.1 + 503))]) (st' := [.int ((S.1 503 20) + 1), .ref (w.2.1 + 503)]) (fun _ _ k => e_iconst (v := 1) dX12_takeField_49 (by decide) (e_iadd dX12_takeField_50 k)) ?_
    refine es_put xc_12 dX12_takeField_51 fl_X12_72 (by decide) (by decide) (by decide) (cel_503 _ _ _) rfl rfl rfl rfl ?_
    refine es_sub [0] rfl ?_
    exact t_X12_takeField_54 N s0 (sI S 503 20 ((S.1 503 20) + 1)) r hf
  · rw [if_neg c15] at hf
    refine es_l (pc' := 37) (ls' := [(2, .int s0), (0, .ref (w.2.1 + 503))]) (st' := [.ref (w.2.1 + 503)]) (fun _ _ k => e_aload_n dX12_takeField_36 1 rfl k) ?_
    refine es_callVI (as := []) (rest := []) hf xc_12 dX12_takeField_37 cs_X12_takeField_X12_wrong ml_X12_235 im_X12_wrong se_X12_wrong rfl rfl (Nat.le_of_ble_eq_true rfl) (Nat.le_of_ble_eq_true rfl) (by decide) rfl (cel_503 _ _ _) (fun _ e => t_X12_wrong N  S _ e) (by decide) (fun v17 S16 hf => ?_)
    refine es_l (pc' := 54) (ls' := [(2, .int s0), (0, .ref (w.2.1 + 503))]) (st' := []) (fun _ _ k => e_pop dX12_takeField_40 rfl (e_goto (tgt := 54) dX12_takeField_41 rfl k)) ?_
    refine es_sub [0] rfl ?_
    exact t_X12_takeField_54 N s0 S16 r hf
def f_X12_takeField (N : Nat) (x1 : Int32) (S : xS) : Option xr :=
  if xin (S.1 503 20) 152 then
  if (S.1 514 ((S.1 503 20).toNatClampNeg)) = 1 then
    xcI (f_X12_fieldOf N x1 (S.2.1 516 ((S.1 503 20).toNatClampNeg)) S) (fun v21 S20 =>
    f_X12_takeField_31 N v21 S20
    )
  else
    f_X12_takeField_31 N ((-1)) S
  else none
set_option maxRecDepth 100000 in
set_option maxHeartbeats 4000000 in
theorem t_X12_takeField {l : Launch} {w : xW} {g : Nat → xE} (N : Nat) (x1 : Int32) (S : xS) (r : xr) (hf : f_X12_takeField N x1 S = some r) : ES l w g M_X12_takeField 0 (lv_args 0 [.ref (w.2.1 + 503), .int x1]) [] S r := by
  show ES l w g M_X12_takeField 0 [(0, .ref (w.2.1 + 503)), (1, .int x1)] [] S r
  unfold f_X12_takeField at hf
  refine es_l (pc' := 1) (ls' := [(0, .ref (w.2.1 + 503)), (1, .int x1)]) (st' := [.ref (w.2.1 + 503)]) (fun _ _ k => e_aload_n dX12_takeField_0 0 rfl k) ?_
  refine es_get (v := .ref (w.2.1 + 514)) xc_12 dX12_takeField_1 fl_X12_57 (by decide) (by decide) (cel_503 _ _ _) rfl ?_
  refine es_l (pc' := 5) (ls' := [(0, .ref (w.2.1 + 503)), (1, .int x1)]) (st' := [.ref (w.2.1 + 503), .ref (w.2.1 + 514)]) (fun _ _ k => e_aload_n dX12_takeField_4 0 rfl k) ?_
  refine es_get (v := .int (S.1 503 20)) xc_12 dX12_takeField_5 fl_X12_72 (by decide) (by decide) (cel_503 _ _ _) rfl ?_
  obtain ⟨g18, hf⟩ := xg hf
  refine es_iald (v := .int (S.1 514 ((S.1 503 20).toNatClampNeg))) dX12_takeField_8 (by decide) (cel_514 _ _ _) g18 rfl ?_
  refine es_l (pc' := 10) (ls' := [(0, .ref (w.2.1 + 503)), (1, .int x1)]) (st' := [.int 1, .int (S.1 514 ((S.1 503 20).toNatClampNeg))]) (fun _ _ k => e_iconst (v := 1) dX12_takeField_9 (by decide) k) ?_
  refine es_br (c := (S.1 514 ((S.1 503 20).toNatClampNeg)) = 1) (tgt := 13) (pf := 30) (st' := []) (fun _ _ a b => e_icmp_ne dX12_takeField_10 rfl b a) (fun c19 => ?_) (fun c19 => ?_)
  · rw [if_pos c19] at hf
    refine es_l (pc' := 16) (ls' := [(0, .ref (w.2.1 + 503)), (1, .int x1)]) (st' := [.ref (w.2.1 + 503), .int x1, .ref (w.2.1 + 503)]) (fun _ _ k => e_aload_n dX12_takeField_13 0 rfl (e_iload_n dX12_takeField_14 1 rfl (e_aload_n dX12_takeField_15 0 rfl k))) ?_
    refine es_get (v := .ref (w.2.1 + 516)) xc_12 dX12_takeField_16 fl_X12_63 (by decide) (by decide) (cel_503 _ _ _) rfl ?_
    refine es_l (pc' := 20) (ls' := [(0, .ref (w.2.1 + 503)), (1, .int x1)]) (st' := [.ref (w.2.1 + 503), .ref (w.2.1 + 516), .int x1, .ref (w.2.1 + 503)]) (fun _ _ k => e_aload_n dX12_takeField_19 0 rfl k) ?_
    refine es_get (v := .int (S.1 503 20)) xc_12 dX12_takeField_20 fl_X12_72 (by decide) (by decide) (cel_503 _ _ _) rfl ?_
    refine es_lald (v := .long (S.2.1 516 ((S.1 503 20).toNatClampNeg))) dX12_takeField_23 (by decide) (cel_516 _ _ _) g18 rfl ?_
    refine es_callVI (as := [.int x1, .long (S.2.1 516 ((S.1 503 20).toNatClampNeg))]) (rest := []) hf xc_12 dX12_takeField_24 cs_X12_takeField_X12_fieldOf ml_X12_246 im_X12_fieldOf se_X12_fieldOf rfl rfl (Nat.le_of_ble_eq_true rfl) (Nat.le_of_ble_eq_true rfl) (by decide) rfl (cel_503 _ _ _) (fun _ e => t_X12_fieldOf N x1 (S.2.1 516 ((S.1 503 20).toNatClampNeg)) S _ e) (by decide) (fun v21 S20 hf => ?_)
    refine es_l (pc' := 31) (ls' := [(0, .ref (w.2.1 + 503)), (1, .int x1)]) (st' := [.int v21]) (fun _ _ k => e_goto (tgt := 31) dX12_takeField_27 rfl k) ?_
    refine es_sub [0] rfl ?_
    exact t_X12_takeField_31 N v21 S20 r hf
  · rw [if_neg c19] at hf
    refine es_l (pc' := 31) (ls' := [(0, .ref (w.2.1 + 503)), (1, .int x1)]) (st' := [.int ((-1))]) (fun _ _ k => e_iconst (v := (-1)) dX12_takeField_30 (by decide) k) ?_
    refine es_sub [0] rfl ?_
    exact t_X12_takeField_31 N ((-1)) S r hf
def f_X12_takeVariable_71 (N : Nat)  (x1 : Int32) (S : xS) : Option xr :=
  some (.inl (some (.inl x1)), sI S 503 20 ((S.1 503 20) + 1))
set_option maxRecDepth 100000 in
set_option maxHeartbeats 4000000 in
theorem t_X12_takeVariable_71 {l : Launch} {w : xW} {g : Nat → xE} (N : Nat)   (x1 : Int32) (S : xS) (r : xr) (hf : f_X12_takeVariable_71 N  x1 S = some r) : ES l w g M_X12_takeVariable 71 [(0, .ref (w.2.1 + 503)), (1, .int x1)] [] S r := by
  unfold f_X12_takeVariable_71 at hf
  refine es_l (pc' := 73) (ls' := [(0, .ref (w.2.1 + 503)), (1, .int x1)]) (st' := [.ref (w.2.1 + 503), .ref (w.2.1 + 503)]) (fun _ _ k => e_aload_n dX12_takeVariable_71 0 rfl (e_dup dX12_takeVariable_72 rfl k)) ?_
  refine es_get (v := .int (S.1 503 20)) xc_12 dX12_takeVariable_73 fl_X12_72 (by decide) (by decide) (cel_503 _ _ _) rfl ?_
  refine es_l (pc' := 78) (ls' := [(0, .ref (w.2.1 + 503)), (1, .int x1)]) (st' := [.int ((S.1 503 20) + 1), .ref (w.2.1 + 503)]) (fun _ _ k => e_iconst (v := 1) dX12_takeVariable_76 (by decide) (e_iadd dX12_takeVariable_77 k)) ?_
  refine es_put xc_12 dX12_takeVariable_78 fl_X12_72 (by decide) (by decide) (by decide) (cel_503 _ _ _) rfl rfl rfl rfl ?_
  refine es_l (pc' := 82) (ls' := [(0, .ref (w.2.1 + 503)), (1, .int x1)]) (st' := [.int x1]) (fun _ _ k => e_iload_n dX12_takeVariable_81 1 rfl k) ?_
  exact es_ireturn (ty := .int) dX12_takeVariable_82 rfl rfl hf
def f_X12_takeVariable (N : Nat)  (S : xS) : Option xr :=
  if xin (S.1 503 20) 152 then
  xcI (f_X12_varOf N (S.2.1 516 ((S.1 503 20).toNatClampNeg)) S) (fun v21 S20 =>
  if 0 ≤ v21 then
    f_X12_takeVariable_71 N v21 S20
  else
    if (S20.1 503 8) = 20 then
      xcI (f_X12_wrong N S20) (fun v25 S24 =>
      some (.inl (some (.inl ((-1)))), S24)
      )
    else
      if xin (S20.1 503 20) 152 then
      if xin (S20.1 503 8) 20 then
      f_X12_takeVariable_71 N (S20.1 503 8) (sI (sI (sJ S20 509 ((S20.1 503 8).toNatClampNeg) (S20.2.1 516 ((S20.1 503 20).toNatClampNeg))) 510 ((S20.1 503 8).toNatClampNeg) 0) 503 8 ((S20.1 503 8) + 1))
      else none
      else none
  )
  else none
set_option maxRecDepth 100000 in
set_option maxHeartbeats 4000000 in
theorem t_X12_takeVariable {l : Launch} {w : xW} {g : Nat → xE} (N : Nat)  (S : xS) (r : xr) (hf : f_X12_takeVariable N  S = some r) : ES l w g M_X12_takeVariable 0 (lv_args 0 [.ref (w.2.1 + 503)]) [] S r := by
  show ES l w g M_X12_takeVariable 0 [(0, .ref (w.2.1 + 503))] [] S r
  unfold f_X12_takeVariable at hf
  refine es_l (pc' := 2) (ls' := [(0, .ref (w.2.1 + 503))]) (st' := [.ref (w.2.1 + 503), .ref (w.2.1 + 503)]) (fun _ _ k => e_aload_n dX12_takeVariable_0 0 rfl (e_aload_n dX12_takeVariable_1 0 rfl k)) ?_
  refine es_get (v := .ref (w.2.1 + 516)) xc_12 dX12_takeVariable_2 fl_X12_63 (by decide) (by decide) (cel_503 _ _ _) rfl ?_
  refine es_l (pc' := 6) (ls' := [(0, .ref (w.2.1 + 503))]) (st' := [.ref (w.2.1 + 503), .ref (w.2.1 + 516), .ref (w.2.1 + 503)]) (fun _ _ k => e_aload_n dX12_takeVariable_5 0 rfl k) ?_
  refine es_get (v := .int (S.1 503 20)) xc_12 dX12_takeVariable_6 fl_X12_72 (by decide) (by decide) (cel_503 _ _ _) rfl ?_
  obtain ⟨g19, hf⟩ := xg hf
  refine es_lald (v := .long (S.2.1 516 ((S.1 503 20).toNatClampNeg))) dX12_takeVariable_9 (by decide) (cel_516 _ _ _) g19 rfl ?_
  refine es_callVI (as := [.long (S.2.1 516 ((S.1 503 20).toNatClampNeg))]) (rest := []) hf xc_12 dX12_takeVariable_10 cs_X12_takeVariable_X12_varOf ml_X12_250 im_X12_varOf se_X12_varOf rfl rfl (Nat.le_of_ble_eq_true rfl) (Nat.le_of_ble_eq_true rfl) (by decide) rfl (cel_503 _ _ _) (fun _ e => t_X12_varOf N (S.2.1 516 ((S.1 503 20).toNatClampNeg)) S _ e) (by decide) (fun v21 S20 hf => ?_)
  refine es_l (pc' := 15) (ls' := [(1, .int v21), (0, .ref (w.2.1 + 503))]) (st' := [.int v21]) (fun _ _ k => e_istore_n (ls' := [(1, .int v21), (0, .ref (w.2.1 + 503))]) dX12_takeVariable_13 (by decide) rfl (e_iload_n dX12_takeVariable_14 0 rfl k)) ?_
  refine es_br (c := 0 ≤ v21) (tgt := 71) (pf := 18) (st' := []) (fun _ _ a b => e_if_ge dX12_takeVariable_15 rfl a b) (fun c22 => ?_) (fun c22 => ?_)
  · rw [if_pos c22] at hf
    refine es_sub [1, 0] rfl ?_
    exact t_X12_takeVariable_71 N v21 S20 r hf
  · rw [if_neg c22] at hf
    refine es_l (pc' := 19) (ls' := [(1, .int v21), (0, .ref (w.2.1 + 503))]) (st' := [.ref (w.2.1 + 503)]) (fun _ _ k => e_aload_n dX12_takeVariable_18 1 rfl k) ?_
    refine es_get (v := .int (S20.1 503 8)) xc_12 dX12_takeVariable_19 fl_X12_36 (by decide) (by decide) (cel_503 _ _ _) rfl ?_
    refine es_l (pc' := 24) (ls' := [(1, .int v21), (0, .ref (w.2.1 + 503))]) (st' := [.int 20, .int (S20.1 503 8)]) (fun _ _ k => e_bipush (v := 20) dX12_takeVariable_22 (by decide) k) ?_
    refine es_br (c := (S20.1 503 8) = 20) (tgt := 27) (pf := 34) (st' := []) (fun _ _ a b => e_icmp_ne dX12_takeVariable_24 rfl b a) (fun c23 => ?_) (fun c23 => ?_)
    · rw [if_pos c23] at hf
      refine es_l (pc' := 28) (ls' := [(1, .int v21), (0, .ref (w.2.1 + 503))]) (st' := [.ref (w.2.1 + 503)]) (fun _ _ k => e_aload_n dX12_takeVariable_27 1 rfl k) ?_
      refine es_callVI (as := []) (rest := []) hf xc_12 dX12_takeVariable_28 cs_X12_takeVariable_X12_wrong ml_X12_235 im_X12_wrong se_X12_wrong rfl rfl (Nat.le_of_ble_eq_true rfl) (Nat.le_of_ble_eq_true rfl) (by decide) rfl (cel_503 _ _ _) (fun _ e => t_X12_wrong N  S20 _ e) (by decide) (fun v25 S24 hf => ?_)
      refine es_l (pc' := 33) (ls' := [(1, .int v21), (0, .ref (w.2.1 + 503))]) (st' := [.int ((-1))]) (fun _ _ k => e_pop dX12_takeVariable_31 rfl (e_iconst (v := (-1)) dX12_takeVariable_32 (by decide) k)) ?_
      exact es_ireturn (ty := .int) dX12_takeVariable_33 rfl rfl hf
    · rw [if_neg c23] at hf
      refine es_l (pc' := 35) (ls' := [(1, .int v21), (0, .ref (w.2.1 + 503))]) (st' := [.ref (w.2.1 + 503)]) (fun _ _ k => e_aload_n dX12_takeVariable_34 1 rfl k) ?_
      refine es_get (v := .int (S20.1 503 8)) xc_12 dX12_takeVariable_35 fl_X12_36 (by decide) (by decide) (cel_503 _ _ _) rfl ?_
      refine es_l (pc' := 40) (ls' := [(1, .int (S20.1 503 8)), (0, .ref (w.2.1 + 503))]) (st' := [.ref (w.2.1 + 503)]) (fun _ _ k => e_istore_n (ls' := [(1, .int (S20.1 503 8)), (0, .ref (w.2.1 + 503))]) dX12_takeVariable_38 (by decide) rfl (e_aload_n dX12_takeVariable_39 1 rfl k)) ?_
      refine es_get (v := .ref (w.2.1 + 509)) xc_12 dX12_takeVariable_40 fl_X12_39 (by decide) (by decide) (cel_503 _ _ _) rfl ?_
      refine es_l (pc' := 45) (ls' := [(1, .int (S20.1 503 8)), (0, .ref (w.2.1 + 503))]) (st' := [.ref (w.2.1 + 503), .int (S20.1 503 8), .ref (w.2.1 + 509)]) (fun _ _ k => e_iload_n dX12_takeVariable_43 0 rfl (e_aload_n dX12_takeVariable_44 1 rfl k)) ?_
      refine es_get (v := .ref (w.2.1 + 516)) xc_12 dX12_takeVariable_45 fl_X12_63 (by decide) (by decide) (cel_503 _ _ _) rfl ?_
      refine es_l (pc' := 49) (ls' := [(1, .int (S20.1 503 8)), (0, .ref (w.2.1 + 503))]) (st' := [.ref (w.2.1 + 503), .ref (w.2.1 + 516), .int (S20.1 503 8), .ref (w.2.1 + 509)]) (fun _ _ k => e_aload_n dX12_takeVariable_48 1 rfl k) ?_
      refine es_get (v := .int (S20.1 503 20)) xc_12 dX12_takeVariable_49 fl_X12_72 (by decide) (by decide) (cel_503 _ _ _) rfl ?_
      obtain ⟨g26, hf⟩ := xg hf
      refine es_lald (v := .long (S20.2.1 516 ((S20.1 503 20).toNatClampNeg))) dX12_takeVariable_52 (by decide) (cel_516 _ _ _) g26 rfl ?_
      obtain ⟨g27, hf⟩ := xg hf
      refine es_last dX12_takeVariable_53 (by decide) (cel_509 _) g27 ?_
      refine es_l (pc' := 55) (ls' := [(1, .int (S20.1 503 8)), (0, .ref (w.2.1 + 503))]) (st' := [.ref (w.2.1 + 503)]) (fun _ _ k => e_aload_n dX12_takeVariable_54 1 rfl k) ?_
      refine es_get (v := .ref (w.2.1 + 510)) xc_12 dX12_takeVariable_55 fl_X12_42 (by decide) (by decide) (cel_503 _ _ _) rfl ?_
      refine es_l (pc' := 60) (ls' := [(1, .int (S20.1 503 8)), (0, .ref (w.2.1 + 503))]) (st' := [.int 0, .int (S20.1 503 8), .ref (w.2.1 + 510)]) (fun _ _ k => e_iload_n dX12_takeVariable_58 0 rfl (e_iconst (v := 0) dX12_takeVariable_59 (by decide) k)) ?_
      refine es_iast dX12_takeVariable_60 (by decide) (cel_510 _) g27 ?_
      refine es_l (pc' := 63) (ls' := [(1, .int (S20.1 503 8)), (0, .ref (w.2.1 + 503))]) (st' := [.ref (w.2.1 + 503), .ref (w.2.1 + 503)]) (fun _ _ k => e_aload_n dX12_takeVariable_61 1 rfl (e_dup dX12_takeVariable_62 rfl k)) ?_
      refine es_get (v := .int (S20.1 503 8)) xc_12 dX12_takeVariable_63 fl_X12_36 (by decide) (by decide) (cel_503 _ _ _) rfl ?_
      refine es_l (pc' := 68) (ls' := [(1, .int (S20.1 503 8)), (0, .ref (w.2.1 + 503))]) (st' := [.int ((S20.1 503 8) + 1), .ref (w.2.1 + 503)]) (fun _ _ k => e_iconst (v := 1) dX12_takeVariable_66 (by decide) (e_iadd dX12_takeVariable_67 k)) ?_
      refine es_put xc_12 dX12_takeVariable_68 fl_X12_36 (by decide) (by decide) (by decide) (cel_503 _ _ _) rfl rfl rfl rfl ?_
      refine es_sub [1, 0] rfl ?_
      exact t_X12_takeVariable_71 N (S20.1 503 8) (sI (sI (sJ S20 509 ((S20.1 503 8).toNatClampNeg) (S20.2.1 516 ((S20.1 503 20).toNatClampNeg))) 510 ((S20.1 503 8).toNatClampNeg) 0) 503 8 ((S20.1 503 8) + 1)) r hf
def f_X12_levelOf_43 (N : Nat) (k7 : Int32 → Int32 → Int32 → Int32 → xS → Option xr) (x1 : Int32) (x2 : Int32) (x3 : Int32) (x4 : Int32) (S : xS) : Option xr :=
  k7 x1 x2 x3 (x4 + 1) S
set_option maxRecDepth 100000 in
set_option maxHeartbeats 4000000 in
theorem t_X12_levelOf_43 {l : Launch} {w : xW} {g : Nat → xE} (N : Nat) (k7 : Int32 → Int32 → Int32 → Int32 → xS → Option xr) (hk7 : ∀ (x1 : Int32) (x2 : Int32) (x3 : Int32) (x4 : Int32) (S : xS) (r : xr), k7 x1 x2 x3 x4 S = some r → ES l w g M_X12_levelOf 7 [(0, .ref (w.2.1 + 503)), (1, .int x1), (2, .int x2), (3, .int x3), (4, .int x4)] [] S r) (x1 : Int32) (x2 : Int32) (x3 : Int32) (x4 : Int32) (S : xS) (r : xr) (hf : f_X12_levelOf_43 N k7 x1 x2 x3 x4 S = some r) : ES l w g M_X12_levelOf 43 [(0, .ref (w.2.1 + 503)), (1, .int x1), (2, .int x2), (3, .int x3), (4, .int x4)] [] S r := by
  unfold f_X12_levelOf_43 at hf
  refine es_l (pc' := 7) (ls' := [(4, .int (x4 + 1)), (0, .ref (w.2.1 + 503)), (1, .int x1), (2, .int x2), (3, .int x3)]) (st' := []) (fun _ _ k => e_iinc (v := x4 + 1) (ls' := [(4, .int (x4 + 1)), (0, .ref (w.2.1 + 503)), (1, .int x1), (2, .int x2), (3, .int x3)]) dX12_levelOf_43 4 rfl rfl (by decide) rfl (e_goto (tgt := 7) dX12_levelOf_46 rfl k)) ?_
  refine es_sub [1, 2, 3, 4, 0] rfl ?_
  exact hk7 x1 x2 x3 (x4 + 1) S r hf
def f_X12_levelOf_40 (N : Nat) (k7 : Int32 → Int32 → Int32 → Int32 → xS → Option xr) (x1 : Int32) (x2 : Int32) (x3 : Int32) (x4 : Int32) (S : xS) : Option xr :=
  f_X12_levelOf_43 N k7 x1 x2 (x3 + 1) x4 S
set_option maxRecDepth 100000 in
set_option maxHeartbeats 4000000 in
theorem t_X12_levelOf_40 {l : Launch} {w : xW} {g : Nat → xE} (N : Nat) (k7 : Int32 → Int32 → Int32 → Int32 → xS → Option xr) (hk7 : ∀ (x1 : Int32) (x2 : Int32) (x3 : Int32) (x4 : Int32) (S : xS) (r : xr), k7 x1 x2 x3 x4 S = some r → ES l w g M_X12_levelOf 7 [(0, .ref (w.2.1 + 503)), (1, .int x1), (2, .int x2), (3, .int x3), (4, .int x4)] [] S r) (x1 : Int32) (x2 : Int32) (x3 : Int32) (x4 : Int32) (S : xS) (r : xr) (hf : f_X12_levelOf_40 N k7 x1 x2 x3 x4 S = some r) : ES l w g M_X12_levelOf 40 [(0, .ref (w.2.1 + 503)), (1, .int x1), (2, .int x2), (3, .int x3), (4, .int x4)] [] S r := by
  unfold f_X12_levelOf_40 at hf
  refine es_l (pc' := 43) (ls' := [(3, .int (x3 + 1)), (0, .ref (w.2.1 + 503)), (1, .int x1), (2, .int x2), (4, .int x4)]) (st' := []) (fun _ _ k => e_iinc (v := x3 + 1) (ls' := [(3, .int (x3 + 1)), (0, .ref (w.2.1 + 503)), (1, .int x1), (2, .int x2), (4, .int x4)]) dX12_levelOf_40 3 rfl rfl (by decide) rfl k) ?_
  refine es_sub [1, 2, 3, 0, 4] rfl ?_
  exact t_X12_levelOf_43 N k7 hk7 x1 x2 (x3 + 1) x4 S r hf
def f_X12_levelOf_7 (N : Nat)  : Nat → Int32 → Int32 → Int32 → Int32 → xS → Option xr
  | 0, _, _, _, _, _ => none
  | n + 1, x1, x2, x3, x4, S =>
  if (S.1 503 30) ≤ x4 then
    some (.inl (some (.inl x2)), S)
  else
    if xin x4 12 then
    if (S.1 520 x4.toNatClampNeg) = 4 then
      if (S.1 523 x4.toNatClampNeg) = x1 then
        f_X12_levelOf_40 N (f_X12_levelOf_7 N n) x1 x3 x3 x4 S
      else
        f_X12_levelOf_40 N (f_X12_levelOf_7 N n) x1 x2 x3 x4 S
    else
      f_X12_levelOf_43 N (f_X12_levelOf_7 N n) x1 x2 x3 x4 S
    else none
set_option maxRecDepth 100000 in
set_option maxHeartbeats 4000000 in
theorem t_X12_levelOf_7 {l : Launch} {w : xW} {g : Nat → xE} (N : Nat)   : ∀ (n : Nat) (x1 : Int32) (x2 : Int32) (x3 : Int32) (x4 : Int32) (S : xS) (r : xr), f_X12_levelOf_7 N  n x1 x2 x3 x4 S = some r → ES l w g M_X12_levelOf 7 [(0, .ref (w.2.1 + 503)), (1, .int x1), (2, .int x2), (3, .int x3), (4, .int x4)] [] S r := by
  intro n
  induction n with
  | zero => intro x1 x2 x3 x4 S r hf; cases hf
  | succ n ih =>
    intro x1 x2 x3 x4 S r hf
    rw [f_X12_levelOf_7.eq_2] at hf
    refine es_l (pc' := 10) (ls' := [(0, .ref (w.2.1 + 503)), (1, .int x1), (2, .int x2), (3, .int x3), (4, .int x4)]) (st' := [.ref (w.2.1 + 503), .int x4]) (fun _ _ k => e_iload dX12_levelOf_7 4 rfl (e_aload_n dX12_levelOf_9 0 rfl k)) ?_
    refine es_get (v := .int (S.1 503 30)) xc_12 dX12_levelOf_10 fl_X12_103 (by decide) (by decide) (cel_503 _ _ _) rfl ?_
    refine es_br (c := (S.1 503 30) ≤ x4) (tgt := 49) (pf := 16) (st' := []) (fun _ _ a b => e_icmp_ge dX12_levelOf_13 rfl a b) (fun c9 => ?_) (fun c9 => ?_)
    · rw [if_pos c9] at hf
      refine es_l (pc' := 50) (ls' := [(0, .ref (w.2.1 + 503)), (1, .int x1), (2, .int x2), (3, .int x3), (4, .int x4)]) (st' := [.int x2]) (fun _ _ k => e_iload_n dX12_levelOf_49 2 rfl k) ?_
      exact es_ireturn (ty := .int) dX12_levelOf_50 rfl rfl hf
    · rw [if_neg c9] at hf
      refine es_l (pc' := 17) (ls' := [(0, .ref (w.2.1 + 503)), (1, .int x1), (2, .int x2), (3, .int x3), (4, .int x4)]) (st' := [.ref (w.2.1 + 503)]) (fun _ _ k => e_aload_n dX12_levelOf_16 0 rfl k) ?_
      refine es_get (v := .ref (w.2.1 + 520)) xc_12 dX12_levelOf_17 fl_X12_106 (by decide) (by decide) (cel_503 _ _ _) rfl ?_
      refine es_l (pc' := 22) (ls' := [(0, .ref (w.2.1 + 503)), (1, .int x1), (2, .int x2), (3, .int x3), (4, .int x4)]) (st' := [.int x4, .ref (w.2.1 + 520)]) (fun _ _ k => e_iload dX12_levelOf_20 4 rfl k) ?_
      obtain ⟨g10, hf⟩ := xg hf
      refine es_iald (v := .int (S.1 520 x4.toNatClampNeg)) dX12_levelOf_22 (by decide) (cel_520 _ _ _) g10 rfl ?_
      refine es_l (pc' := 24) (ls' := [(0, .ref (w.2.1 + 503)), (1, .int x1), (2, .int x2), (3, .int x3), (4, .int x4)]) (st' := [.int 4, .int (S.1 520 x4.toNatClampNeg)]) (fun _ _ k => e_iconst (v := 4) dX12_levelOf_23 (by decide) k) ?_
      refine es_br (c := (S.1 520 x4.toNatClampNeg) = 4) (tgt := 27) (pf := 43) (st' := []) (fun _ _ a b => e_icmp_ne dX12_levelOf_24 rfl b a) (fun c11 => ?_) (fun c11 => ?_)
      · rw [if_pos c11] at hf
        refine es_l (pc' := 28) (ls' := [(0, .ref (w.2.1 + 503)), (1, .int x1), (2, .int x2), (3, .int x3), (4, .int x4)]) (st' := [.ref (w.2.1 + 503)]) (fun _ _ k => e_aload_n dX12_levelOf_27 0 rfl k) ?_
        refine es_get (v := .ref (w.2.1 + 523)) xc_12 dX12_levelOf_28 fl_X12_115 (by decide) (by decide) (cel_503 _ _ _) rfl ?_
        refine es_l (pc' := 33) (ls' := [(0, .ref (w.2.1 + 503)), (1, .int x1), (2, .int x2), (3, .int x3), (4, .int x4)]) (st' := [.int x4, .ref (w.2.1 + 523)]) (fun _ _ k => e_iload dX12_levelOf_31 4 rfl k) ?_
        refine es_iald (v := .int (S.1 523 x4.toNatClampNeg)) dX12_levelOf_33 (by decide) (cel_523 _ _ _) g10 rfl ?_
        refine es_l (pc' := 35) (ls' := [(0, .ref (w.2.1 + 503)), (1, .int x1), (2, .int x2), (3, .int x3), (4, .int x4)]) (st' := [.int x1, .int (S.1 523 x4.toNatClampNeg)]) (fun _ _ k => e_iload_n dX12_levelOf_34 1 rfl k) ?_
        refine es_br (c := (S.1 523 x4.toNatClampNeg) = x1) (tgt := 38) (pf := 40) (st' := []) (fun _ _ a b => e_icmp_ne dX12_levelOf_35 rfl b a) (fun c12 => ?_) (fun c12 => ?_)
        · rw [if_pos c12] at hf
          refine es_l (pc' := 40) (ls' := [(2, .int x3), (0, .ref (w.2.1 + 503)), (1, .int x1), (3, .int x3), (4, .int x4)]) (st' := []) (fun _ _ k => e_iload_n dX12_levelOf_38 3 rfl (e_istore_n (ls' := [(2, .int x3), (0, .ref (w.2.1 + 503)), (1, .int x1), (3, .int x3), (4, .int x4)]) dX12_levelOf_39 (by decide) rfl k)) ?_
          refine es_sub [1, 2, 0, 3, 4] rfl ?_
          exact t_X12_levelOf_40 N (f_X12_levelOf_7 N n) ih x1 x3 x3 x4 S r hf
        · rw [if_neg c12] at hf
          exact t_X12_levelOf_40 N (f_X12_levelOf_7 N n) ih x1 x2 x3 x4 S r hf
      · rw [if_neg c11] at hf
        exact t_X12_levelOf_43 N (f_X12_levelOf_7 N n) ih x1 x2 x3 x4 S r hf
def f_X12_levelOf (N : Nat) (x1 : Int32) (S : xS) : Option xr :=
  f_X12_levelOf_7 N N x1 ((-1)) 0 0 S
set_option maxRecDepth 100000 in
set_option maxHeartbeats 4000000 in
theorem t_X12_levelOf {l : Launch} {w : xW} {g : Nat → xE} (N : Nat) (x1 : Int32) (S : xS) (r : xr) (hf : f_X12_levelOf N x1 S = some r) : ES l w g M_X12_levelOf 0 (lv_args 0 [.ref (w.2.1 + 503), .int x1]) [] S r := by
  show ES l w g M_X12_levelOf 0 [(0, .ref (w.2.1 + 503)), (1, .int x1)] [] S r
  unfold f_X12_levelOf at hf
  refine es_l (pc' := 7) (ls' := [(4, .int 0), (3, .int 0), (2, .int ((-1))), (0, .ref (w.2.1 + 503)), (1, .int x1)]) (st' := []) (fun _ _ k => e_iconst (v := (-1)) dX12_levelOf_0 (by decide) (e_istore_n (ls' := [(2, .int ((-1))), (0, .ref (w.2.1 + 503)), (1, .int x1)]) dX12_levelOf_1 (by decide) rfl (e_iconst (v := 0) dX12_levelOf_2 (by decide) (e_istore_n (ls' := [(3, .int 0), (2, .int ((-1))), (0, .ref (w.2.1 + 503)), (1, .int x1)]) dX12_levelOf_3 (by decide) rfl (e_iconst (v := 0) dX12_levelOf_4 (by decide) (e_istore (ls' := [(4, .int 0), (3, .int 0), (2, .int ((-1))), (0, .ref (w.2.1 + 503)), (1, .int x1)]) dX12_levelOf_5 (by decide) rfl k)))))) ?_
  refine es_sub [3, 4, 2, 1, 0] rfl ?_
  exact t_X12_levelOf_7 N N x1 ((-1)) 0 0 S r hf
def f_X12_levels_28 (N : Nat) (k4 : Int32 → Int32 → xS → Option xr) (x2 : Int32) (s0 : Int32) (s1 : Int32) (S : xS) : Option xr :=
  k4 (s1 + s0) (x2 + 1) S
set_option maxRecDepth 100000 in
set_option maxHeartbeats 4000000 in
theorem t_X12_levels_28 {l : Launch} {w : xW} {g : Nat → xE} (N : Nat) (k4 : Int32 → Int32 → xS → Option xr) (hk4 : ∀ (x1 : Int32) (x2 : Int32) (S : xS) (r : xr), k4 x1 x2 S = some r → ES l w g M_X12_levels 4 [(0, .ref (w.2.1 + 503)), (1, .int x1), (2, .int x2)] [] S r) (x2 : Int32) (s0 : Int32) (s1 : Int32) (S : xS) (r : xr) (hf : f_X12_levels_28 N k4 x2 s0 s1 S = some r) : ES l w g M_X12_levels 28 [(0, .ref (w.2.1 + 503)), (2, .int x2)] [.int s0, .int s1] S r := by
  unfold f_X12_levels_28 at hf
  refine es_l (pc' := 4) (ls' := [(2, .int (x2 + 1)), (1, .int (s1 + s0)), (0, .ref (w.2.1 + 503))]) (st' := []) (fun _ _ k => e_iadd dX12_levels_28 (e_istore_n (ls' := [(1, .int (s1 + s0)), (0, .ref (w.2.1 + 503)), (2, .int x2)]) dX12_levels_29 (by decide) rfl (e_iinc (v := x2 + 1) (ls' := [(2, .int (x2 + 1)), (1, .int (s1 + s0)), (0, .ref (w.2.1 + 503))]) dX12_levels_30 2 rfl rfl (by decide) rfl (e_goto (tgt := 4) dX12_levels_33 rfl k)))) ?_
  refine es_sub [2, 1, 0] rfl ?_
  exact hk4 (s1 + s0) (x2 + 1) S r hf
def f_X12_levels_4 (N : Nat)  : Nat → Int32 → Int32 → xS → Option xr
  | 0, _, _, _ => none
  | n + 1, x1, x2, S =>
  if (S.1 503 30) ≤ x2 then
    some (.inl (some (.inl x1)), S)
  else
    if xin x2 12 then
    if (S.1 520 x2.toNatClampNeg) = 4 then
      f_X12_levels_28 N (f_X12_levels_4 N n) x2 1 x1 S
    else
      f_X12_levels_28 N (f_X12_levels_4 N n) x2 0 x1 S
    else none
set_option maxRecDepth 100000 in
set_option maxHeartbeats 4000000 in
theorem t_X12_levels_4 {l : Launch} {w : xW} {g : Nat → xE} (N : Nat)   : ∀ (n : Nat) (x1 : Int32) (x2 : Int32) (S : xS) (r : xr), f_X12_levels_4 N  n x1 x2 S = some r → ES l w g M_X12_levels 4 [(0, .ref (w.2.1 + 503)), (1, .int x1), (2, .int x2)] [] S r := by
  intro n
  induction n with
  | zero => intro x1 x2 S r hf; cases hf
  | succ n ih =>
    intro x1 x2 S r hf
    rw [f_X12_levels_4.eq_2] at hf
    refine es_l (pc' := 6) (ls' := [(0, .ref (w.2.1 + 503)), (1, .int x1), (2, .int x2)]) (st' := [.ref (w.2.1 + 503), .int x2]) (fun _ _ k => e_iload_n dX12_levels_4 2 rfl (e_aload_n dX12_levels_5 0 rfl k)) ?_
    refine es_get (v := .int (S.1 503 30)) xc_12 dX12_levels_6 fl_X12_103 (by decide) (by decide) (cel_503 _ _ _) rfl ?_
    refine es_br (c := (S.1 503 30) ≤ x2) (tgt := 36) (pf := 12) (st' := []) (fun _ _ a b => e_icmp_ge dX12_levels_9 rfl a b) (fun c7 => ?_) (fun c7 => ?_)
    · rw [if_pos c7] at hf
      refine es_l (pc' := 37) (ls' := [(0, .ref (w.2.1 + 503)), (1, .int x1), (2, .int x2)]) (st' := [.int x1]) (fun _ _ k => e_iload_n dX12_levels_36 1 rfl k) ?_
      exact es_ireturn (ty := .int) dX12_levels_37 rfl rfl hf
    · rw [if_neg c7] at hf
      refine es_l (pc' := 14) (ls' := [(0, .ref (w.2.1 + 503)), (1, .int x1), (2, .int x2)]) (st' := [.ref (w.2.1 + 503), .int x1]) (fun _ _ k => e_iload_n dX12_levels_12 1 rfl (e_aload_n dX12_levels_13 0 rfl k)) ?_
      refine es_get (v := .ref (w.2.1 + 520)) xc_12 dX12_levels_14 fl_X12_106 (by decide) (by decide) (cel_503 _ _ _) rfl ?_
      refine es_l (pc' := 18) (ls' := [(0, .ref (w.2.1 + 503)), (1, .int x1), (2, .int x2)]) (st' := [.int x2, .ref (w.2.1 + 520), .int x1]) (fun _ _ k => e_iload_n dX12_levels_17 2 rfl k) ?_
      obtain ⟨g8, hf⟩ := xg hf
      refine es_iald (v := .int (S.1 520 x2.toNatClampNeg)) dX12_levels_18 (by decide) (cel_520 _ _ _) g8 rfl ?_
      refine es_l (pc' := 20) (ls' := [(0, .ref (w.2.1 + 503)), (1, .int x1), (2, .int x2)]) (st' := [.int 4, .int (S.1 520 x2.toNatClampNeg), .int x1]) (fun _ _ k => e_iconst (v := 4) dX12_levels_19 (by decide) k) ?_
      refine es_br (c := (S.1 520 x2.toNatClampNeg) = 4) (tgt := 23) (pf := 27) (st' := [.int x1]) (fun _ _ a b => e_icmp_ne dX12_levels_20 rfl b a) (fun c9 => ?_) (fun c9 => ?_)
      · rw [if_pos c9] at hf
        refine es_l (pc' := 28) (ls' := [(0, .ref (w.2.1 + 503)), (1, .int x1), (2, .int x2)]) (st' := [.int 1, .int x1]) (fun _ _ k => e_iconst (v := 1) dX12_levels_23 (by decide) (e_goto (tgt := 28) dX12_levels_24 rfl k)) ?_
        refine es_sub [0, 2] rfl ?_
        exact t_X12_levels_28 N (f_X12_levels_4 N n) ih x2 1 x1 S r hf
      · rw [if_neg c9] at hf
        refine es_l (pc' := 28) (ls' := [(0, .ref (w.2.1 + 503)), (1, .int x1), (2, .int x2)]) (st' := [.int 0, .int x1]) (fun _ _ k => e_iconst (v := 0) dX12_levels_27 (by decide) k) ?_
        refine es_sub [0, 2] rfl ?_
        exact t_X12_levels_28 N (f_X12_levels_4 N n) ih x2 0 x1 S r hf
def f_X12_levels (N : Nat)  (S : xS) : Option xr :=
  f_X12_levels_4 N N 0 0 S
set_option maxRecDepth 100000 in
set_option maxHeartbeats 4000000 in
theorem t_X12_levels {l : Launch} {w : xW} {g : Nat → xE} (N : Nat)  (S : xS) (r : xr) (hf : f_X12_levels N  S = some r) : ES l w g M_X12_levels 0 (lv_args 0 [.ref (w.2.1 + 503)]) [] S r := by
  show ES l w g M_X12_levels 0 [(0, .ref (w.2.1 + 503))] [] S r
  unfold f_X12_levels at hf
  refine es_l (pc' := 4) (ls' := [(2, .int 0), (1, .int 0), (0, .ref (w.2.1 + 503))]) (st' := []) (fun _ _ k => e_iconst (v := 0) dX12_levels_0 (by decide) (e_istore_n (ls' := [(1, .int 0), (0, .ref (w.2.1 + 503))]) dX12_levels_1 (by decide) rfl (e_iconst (v := 0) dX12_levels_2 (by decide) (e_istore_n (ls' := [(2, .int 0), (1, .int 0), (0, .ref (w.2.1 + 503))]) dX12_levels_3 (by decide) rfl k)))) ?_
  refine es_sub [2, 1, 0] rfl ?_
  exact t_X12_levels_4 N N 0 0 S r hf
def f_X12_emit (N : Nat) (x1 : Int32) (S : xS) : Option xr :=
  if xin (S.1 503 25) 3000 then
  some (.inl none, sI (sI S 518 ((S.1 503 25).toNatClampNeg) x1) 503 25 ((S.1 503 25) + 1))
  else none
set_option maxRecDepth 100000 in
set_option maxHeartbeats 4000000 in
theorem t_X12_emit {l : Launch} {w : xW} {g : Nat → xE} (N : Nat) (x1 : Int32) (S : xS) (r : xr) (hf : f_X12_emit N x1 S = some r) : ES l w g M_X12_emit 0 (lv_args 0 [.ref (w.2.1 + 503), .int x1]) [] S r := by
  show ES l w g M_X12_emit 0 [(0, .ref (w.2.1 + 503)), (1, .int x1)] [] S r
  unfold f_X12_emit at hf
  refine es_l (pc' := 1) (ls' := [(0, .ref (w.2.1 + 503)), (1, .int x1)]) (st' := [.ref (w.2.1 + 503)]) (fun _ _ k => e_aload_n dX12_emit_0 0 rfl k) ?_
  refine es_get (v := .ref (w.2.1 + 518)) xc_12 dX12_emit_1 fl_X12_85 (by decide) (by decide) (cel_503 _ _ _) rfl ?_
  refine es_l (pc' := 5) (ls' := [(0, .ref (w.2.1 + 503)), (1, .int x1)]) (st' := [.ref (w.2.1 + 503), .ref (w.2.1 + 518)]) (fun _ _ k => e_aload_n dX12_emit_4 0 rfl k) ?_
  refine es_get (v := .int (S.1 503 25)) xc_12 dX12_emit_5 fl_X12_88 (by decide) (by decide) (cel_503 _ _ _) rfl ?_
  refine es_l (pc' := 9) (ls' := [(0, .ref (w.2.1 + 503)), (1, .int x1)]) (st' := [.int x1, .int (S.1 503 25), .ref (w.2.1 + 518)]) (fun _ _ k => e_iload_n dX12_emit_8 1 rfl k) ?_
  obtain ⟨g2, hf⟩ := xg hf
  refine es_iast dX12_emit_9 (by decide) (cel_518 _) g2 ?_
  refine es_l (pc' := 12) (ls' := [(0, .ref (w.2.1 + 503)), (1, .int x1)]) (st' := [.ref (w.2.1 + 503), .ref (w.2.1 + 503)]) (fun _ _ k => e_aload_n dX12_emit_10 0 rfl (e_dup dX12_emit_11 rfl k)) ?_
  refine es_get (v := .int (S.1 503 25)) xc_12 dX12_emit_12 fl_X12_88 (by decide) (by decide) (cel_503 _ _ _) rfl ?_
  refine es_l (pc' := 17) (ls' := [(0, .ref (w.2.1 + 503)), (1, .int x1)]) (st' := [.int ((S.1 503 25) + 1), .ref (w.2.1 + 503)]) (fun _ _ k => e_iconst (v := 1) dX12_emit_15 (by decide) (e_iadd dX12_emit_16 k)) ?_
  refine es_put xc_12 dX12_emit_17 fl_X12_88 (by decide) (by decide) (by decide) (cel_503 _ _ _) rfl rfl rfl rfl ?_
  exact es_return dX12_emit_20 rfl hf
def f_X12_bracket_24 (N : Nat)  (s0 : Int32) (S : xS) : Option xr :=
  if xbo s0 then
  some (.inl (some (.inl s0)), S)
  else none
set_option maxRecDepth 100000 in
set_option maxHeartbeats 4000000 in
theorem t_X12_bracket_24 {l : Launch} {w : xW} {g : Nat → xE} (N : Nat)   (s0 : Int32) (S : xS) (r : xr) (hf : f_X12_bracket_24 N  s0 S = some r) : ES l w g M_X12_bracket 24 [] [.int s0] S r := by
  unfold f_X12_bracket_24 at hf
  obtain ⟨g5, hf⟩ := xg hf
  exact es_ireturn (ty := .boolean) dX12_bracket_24 rfl (xbo_n g5) hf
def f_X12_bracket (N : Nat)  (S : xS) : Option xr :=
  if 10 < ((S.1 503 26) + 1) then
    f_X12_bracket_24 N 0 (sI S 503 26 ((S.1 503 26) + 1))
  else
    f_X12_bracket_24 N 1 (sI S 503 26 ((S.1 503 26) + 1))
set_option maxRecDepth 100000 in
set_option maxHeartbeats 4000000 in
theorem t_X12_bracket {l : Launch} {w : xW} {g : Nat → xE} (N : Nat)  (S : xS) (r : xr) (hf : f_X12_bracket N  S = some r) : ES l w g M_X12_bracket 0 (lv_args 0 [.ref (w.2.1 + 503)]) [] S r := by
  show ES l w g M_X12_bracket 0 [(0, .ref (w.2.1 + 503))] [] S r
  unfold f_X12_bracket at hf
  refine es_l (pc' := 2) (ls' := [(0, .ref (w.2.1 + 503))]) (st' := [.ref (w.2.1 + 503), .ref (w.2.1 + 503)]) (fun _ _ k => e_aload_n dX12_bracket_0 0 rfl (e_dup dX12_bracket_1 rfl k)) ?_
  refine es_get (v := .int (S.1 503 26)) xc_12 dX12_bracket_2 fl_X12_91 (by decide) (by decide) (cel_503 _ _ _) rfl ?_
  refine es_l (pc' := 7) (ls' := [(0, .ref (w.2.1 + 503))]) (st' := [.int ((S.1 503 26) + 1), .ref (w.2.1 + 503)]) (fun _ _ k => e_iconst (v := 1) dX12_bracket_5 (by decide) (e_iadd dX12_bracket_6 k)) ?_
  refine es_put xc_12 dX12_bracket_7 fl_X12_91 (by decide) (by decide) (by decide) (cel_503 _ _ _) rfl rfl rfl rfl ?_
  refine es_l (pc' := 11) (ls' := [(0, .ref (w.2.1 + 503))]) (st' := [.ref (w.2.1 + 503)]) (fun _ _ k => e_aload_n dX12_bracket_10 0 rfl k) ?_
  refine es_get (v := .int ((S.1 503 26) + 1)) xc_12 dX12_bracket_11 fl_X12_91 (by decide) (by decide) (cel_503 _ _ _) rfl ?_
  refine es_l (pc' := 16) (ls' := [(0, .ref (w.2.1 + 503))]) (st' := [.int 10, .int ((S.1 503 26) + 1)]) (fun _ _ k => e_bipush (v := 10) dX12_bracket_14 (by decide) k) ?_
  refine es_br (c := 10 < ((S.1 503 26) + 1)) (tgt := 23) (pf := 19) (st' := []) (fun _ _ a b => e_icmp_gt dX12_bracket_16 rfl a b) (fun c6 => ?_) (fun c6 => ?_)
  · rw [if_pos c6] at hf
    refine es_l (pc' := 24) (ls' := [(0, .ref (w.2.1 + 503))]) (st' := [.int 0]) (fun _ _ k => e_iconst (v := 0) dX12_bracket_23 (by decide) k) ?_
    refine es_sub [] rfl ?_
    exact t_X12_bracket_24 N 0 (sI S 503 26 ((S.1 503 26) + 1)) r hf
  · rw [if_neg c6] at hf
    refine es_l (pc' := 24) (ls' := [(0, .ref (w.2.1 + 503))]) (st' := [.int 1]) (fun _ _ k => e_iconst (v := 1) dX12_bracket_19 (by decide) (e_goto (tgt := 24) dX12_bracket_20 rfl k)) ?_
    refine es_sub [] rfl ?_
    exact t_X12_bracket_24 N 1 (sI S 503 26 ((S.1 503 26) + 1)) r hf
def f_X12_strength_84 (N : Nat)  (s0 : Int32) (S : xS) : Option xr :=
  some (.inl (some (.inl s0)), S)
set_option maxRecDepth 100000 in
set_option maxHeartbeats 4000000 in
theorem t_X12_strength_84 {l : Launch} {w : xW} {g : Nat → xE} (N : Nat)   (s0 : Int32) (S : xS) (r : xr) (hf : f_X12_strength_84 N  s0 S = some r) : ES l w g M_X12_strength 84 [] [.int s0] S r := by
  unfold f_X12_strength_84 at hf
  exact es_ireturn (ty := .int) dX12_strength_84 rfl rfl hf
def f_X12_strength_58 (N : Nat)   (S : xS) : Option xr :=
  f_X12_strength_84 N 5 S
set_option maxRecDepth 100000 in
set_option maxHeartbeats 4000000 in
theorem t_X12_strength_58 {l : Launch} {w : xW} {g : Nat → xE} (N : Nat)    (S : xS) (r : xr) (hf : f_X12_strength_58 N   S = some r) : ES l w g M_X12_strength 58 [] [] S r := by
  unfold f_X12_strength_58 at hf
  refine es_l (pc' := 84) (ls' := []) (st' := [.int 5]) (fun _ _ k => e_iconst (v := 5) dX12_strength_58 (by decide) (e_goto (tgt := 84) dX12_strength_59 rfl k)) ?_
  exact t_X12_strength_84 N 5 S r hf
def f_X12_strength_46 (N : Nat)  (x0 : Int32) (S : xS) : Option xr :=
  if x0 = 18 then
    f_X12_strength_58 N S
  else
    if x0 = 19 then
      f_X12_strength_58 N S
    else
      if x0 < 20 then
        if x0 = 5 then
          f_X12_strength_84 N 7 S
        else
          f_X12_strength_84 N 0 S
      else
        f_X12_strength_84 N 6 S
set_option maxRecDepth 100000 in
set_option maxHeartbeats 4000000 in
theorem t_X12_strength_46 {l : Launch} {w : xW} {g : Nat → xE} (N : Nat)   (x0 : Int32) (S : xS) (r : xr) (hf : f_X12_strength_46 N  x0 S = some r) : ES l w g M_X12_strength 46 [(0, .int x0)] [] S r := by
  unfold f_X12_strength_46 at hf
  refine es_l (pc' := 49) (ls' := [(0, .int x0)]) (st' := [.int 18, .int x0]) (fun _ _ k => e_iload_n dX12_strength_46 0 rfl (e_bipush (v := 18) dX12_strength_47 (by decide) k)) ?_
  refine es_br (c := x0 = 18) (tgt := 58) (pf := 52) (st' := []) (fun _ _ a b => e_icmp_eq dX12_strength_49 rfl a b) (fun c19 => ?_) (fun c19 => ?_)
  · rw [if_pos c19] at hf
    refine es_sub [] rfl ?_
    exact t_X12_strength_58 N S r hf
  · rw [if_neg c19] at hf
    refine es_l (pc' := 55) (ls' := [(0, .int x0)]) (st' := [.int 19, .int x0]) (fun _ _ k => e_iload_n dX12_strength_52 0 rfl (e_bipush (v := 19) dX12_strength_53 (by decide) k)) ?_
    refine es_br (c := x0 = 19) (tgt := 58) (pf := 62) (st' := []) (fun _ _ a b => e_icmp_ne dX12_strength_55 rfl b a) (fun c20 => ?_) (fun c20 => ?_)
    · rw [if_pos c20] at hf
      refine es_sub [] rfl ?_
      exact t_X12_strength_58 N S r hf
    · rw [if_neg c20] at hf
      refine es_l (pc' := 65) (ls' := [(0, .int x0)]) (st' := [.int 20, .int x0]) (fun _ _ k => e_iload_n dX12_strength_62 0 rfl (e_bipush (v := 20) dX12_strength_63 (by decide) k)) ?_
      refine es_br (c := x0 < 20) (tgt := 73) (pf := 68) (st' := []) (fun _ _ a b => e_icmp_lt dX12_strength_65 rfl a b) (fun c21 => ?_) (fun c21 => ?_)
      · rw [if_pos c21] at hf
        refine es_l (pc' := 75) (ls' := [(0, .int x0)]) (st' := [.int 5, .int x0]) (fun _ _ k => e_iload_n dX12_strength_73 0 rfl (e_iconst (v := 5) dX12_strength_74 (by decide) k)) ?_
        refine es_br (c := x0 = 5) (tgt := 78) (pf := 83) (st' := []) (fun _ _ a b => e_icmp_ne dX12_strength_75 rfl b a) (fun c22 => ?_) (fun c22 => ?_)
        · rw [if_pos c22] at hf
          refine es_l (pc' := 84) (ls' := [(0, .int x0)]) (st' := [.int 7]) (fun _ _ k => e_bipush (v := 7) dX12_strength_78 (by decide) (e_goto (tgt := 84) dX12_strength_80 rfl k)) ?_
          refine es_sub [] rfl ?_
          exact t_X12_strength_84 N 7 S r hf
        · rw [if_neg c22] at hf
          refine es_l (pc' := 84) (ls' := [(0, .int x0)]) (st' := [.int 0]) (fun _ _ k => e_iconst (v := 0) dX12_strength_83 (by decide) k) ?_
          refine es_sub [] rfl ?_
          exact t_X12_strength_84 N 0 S r hf
      · rw [if_neg c21] at hf
        refine es_l (pc' := 84) (ls' := [(0, .int x0)]) (st' := [.int 6]) (fun _ _ k => e_bipush (v := 6) dX12_strength_68 (by decide) (e_goto (tgt := 84) dX12_strength_70 rfl k)) ?_
        refine es_sub [] rfl ?_
        exact t_X12_strength_84 N 6 S r hf
def f_X12_strength (N : Nat) (x0 : Int32) (S : xS) : Option xr :=
  if x0 = 10 then
    f_X12_strength_84 N 1 S
  else
    if x0 = 11 then
      f_X12_strength_84 N 2 S
    else
      if x0 = 6 then
        f_X12_strength_84 N 3 S
      else
        if x0 < 12 then
          f_X12_strength_46 N x0 S
        else
          if 17 < x0 then
            f_X12_strength_46 N x0 S
          else
            f_X12_strength_84 N 4 S
set_option maxRecDepth 100000 in
set_option maxHeartbeats 4000000 in
theorem t_X12_strength {l : Launch} {w : xW} {g : Nat → xE} (N : Nat) (x0 : Int32) (S : xS) (r : xr) (hf : f_X12_strength N x0 S = some r) : ES l w g M_X12_strength 0 (lv_args 0 [.int x0]) [] S r := by
  show ES l w g M_X12_strength 0 [(0, .int x0)] [] S r
  unfold f_X12_strength at hf
  refine es_l (pc' := 3) (ls' := [(0, .int x0)]) (st' := [.int 10, .int x0]) (fun _ _ k => e_iload_n dX12_strength_0 0 rfl (e_bipush (v := 10) dX12_strength_1 (by decide) k)) ?_
  refine es_br (c := x0 = 10) (tgt := 6) (pf := 10) (st' := []) (fun _ _ a b => e_icmp_ne dX12_strength_3 rfl b a) (fun c23 => ?_) (fun c23 => ?_)
  · rw [if_pos c23] at hf
    refine es_l (pc' := 84) (ls' := [(0, .int x0)]) (st' := [.int 1]) (fun _ _ k => e_iconst (v := 1) dX12_strength_6 (by decide) (e_goto (tgt := 84) dX12_strength_7 rfl k)) ?_
    refine es_sub [] rfl ?_
    exact t_X12_strength_84 N 1 S r hf
  · rw [if_neg c23] at hf
    refine es_l (pc' := 13) (ls' := [(0, .int x0)]) (st' := [.int 11, .int x0]) (fun _ _ k => e_iload_n dX12_strength_10 0 rfl (e_bipush (v := 11) dX12_strength_11 (by decide) k)) ?_
    refine es_br (c := x0 = 11) (tgt := 16) (pf := 20) (st' := []) (fun _ _ a b => e_icmp_ne dX12_strength_13 rfl b a) (fun c24 => ?_) (fun c24 => ?_)
    · rw [if_pos c24] at hf
      refine es_l (pc' := 84) (ls' := [(0, .int x0)]) (st' := [.int 2]) (fun _ _ k => e_iconst (v := 2) dX12_strength_16 (by decide) (e_goto (tgt := 84) dX12_strength_17 rfl k)) ?_
      refine es_sub [] rfl ?_
      exact t_X12_strength_84 N 2 S r hf
    · rw [if_neg c24] at hf
      refine es_l (pc' := 23) (ls' := [(0, .int x0)]) (st' := [.int 6, .int x0]) (fun _ _ k => e_iload_n dX12_strength_20 0 rfl (e_bipush (v := 6) dX12_strength_21 (by decide) k)) ?_
      refine es_br (c := x0 = 6) (tgt := 26) (pf := 30) (st' := []) (fun _ _ a b => e_icmp_ne dX12_strength_23 rfl b a) (fun c25 => ?_) (fun c25 => ?_)
      · rw [if_pos c25] at hf
        refine es_l (pc' := 84) (ls' := [(0, .int x0)]) (st' := [.int 3]) (fun _ _ k => e_iconst (v := 3) dX12_strength_26 (by decide) (e_goto (tgt := 84) dX12_strength_27 rfl k)) ?_
        refine es_sub [] rfl ?_
        exact t_X12_strength_84 N 3 S r hf
      · rw [if_neg c25] at hf
        refine es_l (pc' := 33) (ls' := [(0, .int x0)]) (st' := [.int 12, .int x0]) (fun _ _ k => e_iload_n dX12_strength_30 0 rfl (e_bipush (v := 12) dX12_strength_31 (by decide) k)) ?_
        refine es_br (c := x0 < 12) (tgt := 46) (pf := 36) (st' := []) (fun _ _ a b => e_icmp_lt dX12_strength_33 rfl a b) (fun c26 => ?_) (fun c26 => ?_)
        · rw [if_pos c26] at hf
          exact t_X12_strength_46 N x0 S r hf
        · rw [if_neg c26] at hf
          refine es_l (pc' := 39) (ls' := [(0, .int x0)]) (st' := [.int 17, .int x0]) (fun _ _ k => e_iload_n dX12_strength_36 0 rfl (e_bipush (v := 17) dX12_strength_37 (by decide) k)) ?_
          refine es_br (c := 17 < x0) (tgt := 46) (pf := 42) (st' := []) (fun _ _ a b => e_icmp_gt dX12_strength_39 rfl a b) (fun c27 => ?_) (fun c27 => ?_)
          · rw [if_pos c27] at hf
            exact t_X12_strength_46 N x0 S r hf
          · rw [if_neg c27] at hf
            refine es_l (pc' := 84) (ls' := [(0, .int x0)]) (st' := [.int 4]) (fun _ _ k => e_iconst (v := 4) dX12_strength_42 (by decide) (e_goto (tgt := 84) dX12_strength_43 rfl k)) ?_
            refine es_sub [] rfl ?_
            exact t_X12_strength_84 N 4 S r hf
def f_X12_operation_56 (N : Nat)  (s0 : Int32) (S : xS) : Option xr :=
  some (.inl (some (.inl s0)), S)
set_option maxRecDepth 100000 in
set_option maxHeartbeats 4000000 in
theorem t_X12_operation_56 {l : Launch} {w : xW} {g : Nat → xE} (N : Nat)   (s0 : Int32) (S : xS) (r : xr) (hf : f_X12_operation_56 N  s0 S = some r) : ES l w g M_X12_operation 56 [] [.int s0] S r := by
  unfold f_X12_operation_56 at hf
  exact es_ireturn (ty := .int) dX12_operation_56 rfl rfl hf
def f_X12_operation (N : Nat)  (S : xS) : Option xr :=
  if xin (S.1 503 20) 152 then
  if (S.1 514 ((S.1 503 20).toNatClampNeg)) = 3 then
    if (lg_cmp (S.2.1 516 ((S.1 503 20).toNatClampNeg)) 14) = 0 then
      f_X12_operation_56 N 10 S
    else
      if (lg_cmp (S.2.1 516 ((S.1 503 20).toNatClampNeg)) 13) = 0 then
        f_X12_operation_56 N 11 S
      else
        f_X12_operation_56 N 0 S
  else
    if (S.1 514 ((S.1 503 20).toNatClampNeg)) = 4 then
      if ((S.2.1 516 ((S.1 503 20).toNatClampNeg) : Int64).toInt32 : Int32).toInt ∈ [(37 : Int)] then
        some (.inl (some (.inl 22)), S)
      else
      if ((S.2.1 516 ((S.1 503 20).toNatClampNeg) : Int64).toInt32 : Int32).toInt ∈ [(42 : Int)] then
        some (.inl (some (.inl 20)), S)
      else
      if ((S.2.1 516 ((S.1 503 20).toNatClampNeg) : Int64).toInt32 : Int32).toInt ∈ [(43 : Int)] then
        some (.inl (some (.inl 18)), S)
      else
      if ((S.2.1 516 ((S.1 503 20).toNatClampNeg) : Int64).toInt32 : Int32).toInt ∈ [(45 : Int)] then
        some (.inl (some (.inl 19)), S)
      else
      if ((S.2.1 516 ((S.1 503 20).toNatClampNeg) : Int64).toInt32 : Int32).toInt ∈ [(47 : Int)] then
        some (.inl (some (.inl 21)), S)
      else
      if ((S.2.1 516 ((S.1 503 20).toNatClampNeg) : Int64).toInt32 : Int32).toInt ∈ [(60 : Int)] then
        some (.inl (some (.inl 14)), S)
      else
      if ((S.2.1 516 ((S.1 503 20).toNatClampNeg) : Int64).toInt32 : Int32).toInt ∈ [(61 : Int)] then
        some (.inl (some (.inl 12)), S)
      else
      if ((S.2.1 516 ((S.1 503 20).toNatClampNeg) : Int64).toInt32 : Int32).toInt ∈ [(62 : Int)] then
        some (.inl (some (.inl 16)), S)
      else
      if ((S.2.1 516 ((S.1 503 20).toNatClampNeg) : Int64).toInt32 : Int32).toInt ∈ [(289 : Int)] then
        some (.inl (some (.inl 13)), S)
      else
      if ((S.2.1 516 ((S.1 503 20).toNatClampNeg) : Int64).toInt32 : Int32).toInt ∈ [(316 : Int)] then
        some (.inl (some (.inl 15)), S)
      else
      if ((S.2.1 516 ((S.1 503 20).toNatClampNeg) : Int64).toInt32 : Int32).toInt ∈ [(318 : Int)] then
        some (.inl (some (.inl 17)), S)
      else
      some (.inl (some (.inl 0)), S)
    else
      some (.inl (some (.inl 0)), S)
  else none
set_option maxRecDepth 100000 in
set_option maxHeartbeats 4000000 in
theorem t_X12_operation {l : Launch} {w : xW} {g : Nat → xE} (N : Nat)  (S : xS) (r : xr) (hf : f_X12_operation N  S = some r) : ES l w g M_X12_operation 0 (lv_args 0 [.ref (w.2.1 + 503)]) [] S r := by
  show ES l w g M_X12_operation 0 [(0, .ref (w.2.1 + 503))] [] S r
  unfold f_X12_operation at hf
  refine es_l (pc' := 1) (ls' := [(0, .ref (w.2.1 + 503))]) (st' := [.ref (w.2.1 + 503)]) (fun _ _ k => e_aload_n dX12_operation_0 0 rfl k) ?_
  refine es_get (v := .ref (w.2.1 + 514)) xc_12 dX12_operation_1 fl_X12_57 (by decide) (by decide) (cel_503 _ _ _) rfl ?_
  refine es_l (pc' := 5) (ls' := [(0, .ref (w.2.1 + 503))]) (st' := [.ref (w.2.1 + 503), .ref (w.2.1 + 514)]) (fun _ _ k => e_aload_n dX12_operation_4 0 rfl k) ?_
  refine es_get (v := .int (S.1 503 20)) xc_12 dX12_operation_5 fl_X12_72 (by decide) (by decide) (cel_503 _ _ _) rfl ?_
  obtain ⟨g33, hf⟩ := xg hf
  refine es_iald (v := .int (S.1 514 ((S.1 503 20).toNatClampNeg))) dX12_operation_8 (by decide) (cel_514 _ _ _) g33 rfl ?_
  refine es_l (pc' := 10) (ls' := [(0, .ref (w.2.1 + 503))]) (st' := [.int 3, .int (S.1 514 ((S.1 503 20).toNatClampNeg))]) (fun _ _ k => e_iconst (v := 3) dX12_operation_9 (by decide) k) ?_
  refine es_br (c := (S.1 514 ((S.1 503 20).toNatClampNeg)) = 3) (tgt := 13) (pf := 57) (st' := []) (fun _ _ a b => e_icmp_ne dX12_operation_10 rfl b a) (fun c34 => ?_) (fun c34 => ?_)
  · rw [if_pos c34] at hf
    refine es_l (pc' := 14) (ls' := [(0, .ref (w.2.1 + 503))]) (st' := [.ref (w.2.1 + 503)]) (fun _ _ k => e_aload_n dX12_operation_13 0 rfl k) ?_
    refine es_get (v := .ref (w.2.1 + 516)) xc_12 dX12_operation_14 fl_X12_63 (by decide) (by decide) (cel_503 _ _ _) rfl ?_
    refine es_l (pc' := 18) (ls' := [(0, .ref (w.2.1 + 503))]) (st' := [.ref (w.2.1 + 503), .ref (w.2.1 + 516)]) (fun _ _ k => e_aload_n dX12_operation_17 0 rfl k) ?_
    refine es_get (v := .int (S.1 503 20)) xc_12 dX12_operation_18 fl_X12_72 (by decide) (by decide) (cel_503 _ _ _) rfl ?_
    refine es_lald (v := .long (S.2.1 516 ((S.1 503 20).toNatClampNeg))) dX12_operation_21 (by decide) (cel_516 _ _ _) g33 rfl ?_
    refine es_l (pc' := 26) (ls' := [(0, .ref (w.2.1 + 503))]) (st' := [.int (lg_cmp (S.2.1 516 ((S.1 503 20).toNatClampNeg)) 14)]) (fun _ _ k => e_ldc2 dX12_operation_22 kj_X12_253 (e_lcmp dX12_operation_25 k)) ?_
    refine es_br (c := (lg_cmp (S.2.1 516 ((S.1 503 20).toNatClampNeg)) 14) = 0) (tgt := 29) (pf := 34) (st' := []) (fun _ _ a b => e_if_ne dX12_operation_26 rfl b a) (fun c35 => ?_) (fun c35 => ?_)
    · rw [if_pos c35] at hf
      refine es_l (pc' := 56) (ls' := [(0, .ref (w.2.1 + 503))]) (st' := [.int 10]) (fun _ _ k => e_bipush (v := 10) dX12_operation_29 (by decide) (e_goto (tgt := 56) dX12_operation_31 rfl k)) ?_
      refine es_sub [] rfl ?_
      exact t_X12_operation_56 N 10 S r hf
    · rw [if_neg c35] at hf
      refine es_l (pc' := 35) (ls' := [(0, .ref (w.2.1 + 503))]) (st' := [.ref (w.2.1 + 503)]) (fun _ _ k => e_aload_n dX12_operation_34 0 rfl k) ?_
      refine es_get (v := .ref (w.2.1 + 516)) xc_12 dX12_operation_35 fl_X12_63 (by decide) (by decide) (cel_503 _ _ _) rfl ?_
      refine es_l (pc' := 39) (ls' := [(0, .ref (w.2.1 + 503))]) (st' := [.ref (w.2.1 + 503), .ref (w.2.1 + 516)]) (fun _ _ k => e_aload_n dX12_operation_38 0 rfl k) ?_
      refine es_get (v := .int (S.1 503 20)) xc_12 dX12_operation_39 fl_X12_72 (by decide) (by decide) (cel_503 _ _ _) rfl ?_
      refine es_lald (v := .long (S.2.1 516 ((S.1 503 20).toNatClampNeg))) dX12_operation_42 (by decide) (cel_516 _ _ _) g33 rfl ?_
      refine es_l (pc' := 47) (ls' := [(0, .ref (w.2.1 + 503))]) (st' := [.int (lg_cmp (S.2.1 516 ((S.1 503 20).toNatClampNeg)) 13)]) (fun _ _ k => e_ldc2 dX12_operation_43 kj_X12_255 (e_lcmp dX12_operation_46 k)) ?_
      refine es_br (c := (lg_cmp (S.2.1 516 ((S.1 503 20).toNatClampNeg)) 13) = 0) (tgt := 50) (pf := 55) (st' := []) (fun _ _ a b => e_if_ne dX12_operation_47 rfl b a) (fun c36 => ?_) (fun c36 => ?_)
      · rw [if_pos c36] at hf
        refine es_l (pc' := 56) (ls' := [(0, .ref (w.2.1 + 503))]) (st' := [.int 11]) (fun _ _ k => e_bipush (v := 11) dX12_operation_50 (by decide) (e_goto (tgt := 56) dX12_operation_52 rfl k)) ?_
        refine es_sub [] rfl ?_
        exact t_X12_operation_56 N 11 S r hf
      · rw [if_neg c36] at hf
        refine es_l (pc' := 56) (ls' := [(0, .ref (w.2.1 + 503))]) (st' := [.int 0]) (fun _ _ k => e_iconst (v := 0) dX12_operation_55 (by decide) k) ?_
        refine es_sub [] rfl ?_
        exact t_X12_operation_56 N 0 S r hf
  · rw [if_neg c34] at hf
    refine es_l (pc' := 58) (ls' := [(0, .ref (w.2.1 + 503))]) (st' := [.ref (w.2.1 + 503)]) (fun _ _ k => e_aload_n dX12_operation_57 0 rfl k) ?_
    refine es_get (v := .ref (w.2.1 + 514)) xc_12 dX12_operation_58 fl_X12_57 (by decide) (by decide) (cel_503 _ _ _) rfl ?_
    refine es_l (pc' := 62) (ls' := [(0, .ref (w.2.1 + 503))]) (st' := [.ref (w.2.1 + 503), .ref (w.2.1 + 514)]) (fun _ _ k => e_aload_n dX12_operation_61 0 rfl k) ?_
    refine es_get (v := .int (S.1 503 20)) xc_12 dX12_operation_62 fl_X12_72 (by decide) (by decide) (cel_503 _ _ _) rfl ?_
    refine es_iald (v := .int (S.1 514 ((S.1 503 20).toNatClampNeg))) dX12_operation_65 (by decide) (cel_514 _ _ _) g33 rfl ?_
    refine es_l (pc' := 67) (ls' := [(0, .ref (w.2.1 + 503))]) (st' := [.int 4, .int (S.1 514 ((S.1 503 20).toNatClampNeg))]) (fun _ _ k => e_iconst (v := 4) dX12_operation_66 (by decide) k) ?_
    refine es_br (c := (S.1 514 ((S.1 503 20).toNatClampNeg)) = 4) (tgt := 72) (pf := 70) (st' := []) (fun _ _ a b => e_icmp_eq dX12_operation_67 rfl a b) (fun c37 => ?_) (fun c37 => ?_)
    · rw [if_pos c37] at hf
      refine es_l (pc' := 73) (ls' := [(0, .ref (w.2.1 + 503))]) (st' := [.ref (w.2.1 + 503)]) (fun _ _ k => e_aload_n dX12_operation_72 0 rfl k) ?_
      refine es_get (v := .ref (w.2.1 + 516)) xc_12 dX12_operation_73 fl_X12_63 (by decide) (by decide) (cel_503 _ _ _) rfl ?_
      refine es_l (pc' := 77) (ls' := [(0, .ref (w.2.1 + 503))]) (st' := [.ref (w.2.1 + 503), .ref (w.2.1 + 516)]) (fun _ _ k => e_aload_n dX12_operation_76 0 rfl k) ?_
      refine es_get (v := .int (S.1 503 20)) xc_12 dX12_operation_77 fl_X12_72 (by decide) (by decide) (cel_503 _ _ _) rfl ?_
      refine es_lald (v := .long (S.2.1 516 ((S.1 503 20).toNatClampNeg))) dX12_operation_80 (by decide) (cel_516 _ _ _) g33 rfl ?_
      refine es_l (pc' := 84) (ls' := [(1, .int ((S.2.1 516 ((S.1 503 20).toNatClampNeg) : Int64).toInt32)), (0, .ref (w.2.1 + 503))]) (st' := [.int ((S.2.1 516 ((S.1 503 20).toNatClampNeg) : Int64).toInt32)]) (fun _ _ k => e_l2i (v := (S.2.1 516 ((S.1 503 20).toNatClampNeg) : Int64).toInt32) dX12_operation_81 rfl (e_istore_n (ls' := [(1, .int ((S.2.1 516 ((S.1 503 20).toNatClampNeg) : Int64).toInt32)), (0, .ref (w.2.1 + 503))]) dX12_operation_82 (by decide) rfl (e_iload_n dX12_operation_83 0 rfl k))) ?_
      by_cases c38 : ((S.2.1 516 ((S.1 503 20).toNatClampNeg) : Int64).toInt32 : Int32).toInt ∈ [(37 : Int)]
      · rw [if_pos c38] at hf
        refine es_l (pc' := 214) (ls' := [(1, .int ((S.2.1 516 ((S.1 503 20).toNatClampNeg) : Int64).toInt32)), (0, .ref (w.2.1 + 503))]) (st' := []) (fun _ _ k => e_lookC (off := 130) dX12_operation_84 c38 (by decide) rfl k) ?_
        refine es_l (pc' := 216) (ls' := [(1, .int ((S.2.1 516 ((S.1 503 20).toNatClampNeg) : Int64).toInt32)), (0, .ref (w.2.1 + 503))]) (st' := [.int 22]) (fun _ _ k => e_bipush (v := 22) dX12_operation_214 (by decide) k) ?_
        exact es_ireturn (ty := .int) dX12_operation_216 rfl rfl hf
      rw [if_neg c38] at hf
      by_cases c39 : ((S.2.1 516 ((S.1 503 20).toNatClampNeg) : Int64).toInt32 : Int32).toInt ∈ [(42 : Int)]
      · rw [if_pos c39] at hf
        refine es_l (pc' := 208) (ls' := [(1, .int ((S.2.1 516 ((S.1 503 20).toNatClampNeg) : Int64).toInt32)), (0, .ref (w.2.1 + 503))]) (st' := []) (fun _ _ k => e_lookC (off := 124) dX12_operation_84 c39 (by decide) rfl k) ?_
        refine es_l (pc' := 210) (ls' := [(1, .int ((S.2.1 516 ((S.1 503 20).toNatClampNeg) : Int64).toInt32)), (0, .ref (w.2.1 + 503))]) (st' := [.int 20]) (fun _ _ k => e_bipush (v := 20) dX12_operation_208 (by decide) k) ?_
        exact es_ireturn (ty := .int) dX12_operation_210 rfl rfl hf
      rw [if_neg c39] at hf
      by_cases c40 : ((S.2.1 516 ((S.1 503 20).toNatClampNeg) : Int64).toInt32 : Int32).toInt ∈ [(43 : Int)]
      · rw [if_pos c40] at hf
        refine es_l (pc' := 202) (ls' := [(1, .int ((S.2.1 516 ((S.1 503 20).toNatClampNeg) : Int64).toInt32)), (0, .ref (w.2.1 + 503))]) (st' := []) (fun _ _ k => e_lookC (off := 118) dX12_operation_84 c40 (by decide) rfl k) ?_
        refine es_l (pc' := 204) (ls' := [(1, .int ((S.2.1 516 ((S.1 503 20).toNatClampNeg) : Int64).toInt32)), (0, .ref (w.2.1 + 503))]) (st' := [.int 18]) (fun _ _ k => e_bipush (v := 18) dX12_operation_202 (by decide) k) ?_
        exact es_ireturn (ty := .int) dX12_operation_204 rfl rfl hf
      rw [if_neg c40] at hf
      by_cases c41 : ((S.2.1 516 ((S.1 503 20).toNatClampNeg) : Int64).toInt32 : Int32).toInt ∈ [(45 : Int)]
      · rw [if_pos c41] at hf
        refine es_l (pc' := 205) (ls' := [(1, .int ((S.2.1 516 ((S.1 503 20).toNatClampNeg) : Int64).toInt32)), (0, .ref (w.2.1 + 503))]) (st' := []) (fun _ _ k => e_lookC (off := 121) dX12_operation_84 c41 (by decide) rfl k) ?_
        refine es_l (pc' := 207) (ls' := [(1, .int ((S.2.1 516 ((S.1 503 20).toNatClampNeg) : Int64).toInt32)), (0, .ref (w.2.1 + 503))]) (st' := [.int 19]) (fun _ _ k => e_bipush (v := 19) dX12_operation_205 (by decide) k) ?_
        exact es_ireturn (ty := .int) dX12_operation_207 rfl rfl hf
      rw [if_neg c41] at hf
      by_cases c42 : ((S.2.1 516 ((S.1 503 20).toNatClampNeg) : Int64).toInt32 : Int32).toInt ∈ [(47 : Int)]
      · rw [if_pos c42] at hf
        refine es_l (pc' := 211) (ls' := [(1, .int ((S.2.1 516 ((S.1 503 20).toNatClampNeg) : Int64).toInt32)), (0, .ref (w.2.1 + 503))]) (st' := []) (fun _ _ k => e_lookC (off := 127) dX12_operation_84 c42 (by decide) rfl k) ?_
        refine es_l (pc' := 213) (ls' := [(1, .int ((S.2.1 516 ((S.1 503 20).toNatClampNeg) : Int64).toInt32)), (0, .ref (w.2.1 + 503))]) (st' := [.int 21]) (fun _ _ k => e_bipush (v := 21) dX12_operation_211 (by decide) k) ?_
        exact es_ireturn (ty := .int) dX12_operation_213 rfl rfl hf
      rw [if_neg c42] at hf
      by_cases c43 : ((S.2.1 516 ((S.1 503 20).toNatClampNeg) : Int64).toInt32 : Int32).toInt ∈ [(60 : Int)]
      · rw [if_pos c43] at hf
        refine es_l (pc' := 190) (ls' := [(1, .int ((S.2.1 516 ((S.1 503 20).toNatClampNeg) : Int64).toInt32)), (0, .ref (w.2.1 + 503))]) (st' := []) (fun _ _ k => e_lookC (off := 106) dX12_operation_84 c43 (by decide) rfl k) ?_
        refine es_l (pc' := 192) (ls' := [(1, .int ((S.2.1 516 ((S.1 503 20).toNatClampNeg) : Int64).toInt32)), (0, .ref (w.2.1 + 503))]) (st' := [.int 14]) (fun _ _ k => e_bipush (v := 14) dX12_operation_190 (by decide) k) ?_
        exact es_ireturn (ty := .int) dX12_operation_192 rfl rfl hf
      rw [if_neg c43] at hf
      by_cases c44 : ((S.2.1 516 ((S.1 503 20).toNatClampNeg) : Int64).toInt32 : Int32).toInt ∈ [(61 : Int)]
      · rw [if_pos c44] at hf
        refine es_l (pc' := 184) (ls' := [(1, .int ((S.2.1 516 ((S.1 503 20).toNatClampNeg) : Int64).toInt32)), (0, .ref (w.2.1 + 503))]) (st' := []) (fun _ _ k => e_lookC (off := 100) dX12_operation_84 c44 (by decide) rfl k) ?_
        refine es_l (pc' := 186) (ls' := [(1, .int ((S.2.1 516 ((S.1 503 20).toNatClampNeg) : Int64).toInt32)), (0, .ref (w.2.1 + 503))]) (st' := [.int 12]) (fun _ _ k => e_bipush (v := 12) dX12_operation_184 (by decide) k) ?_
        exact es_ireturn (ty := .int) dX12_operation_186 rfl rfl hf
      rw [if_neg c44] at hf
      by_cases c45 : ((S.2.1 516 ((S.1 503 20).toNatClampNeg) : Int64).toInt32 : Int32).toInt ∈ [(62 : Int)]
      · rw [if_pos c45] at hf
        refine es_l (pc' := 196) (ls' := [(1, .int ((S.2.1 516 ((S.1 503 20).toNatClampNeg) : Int64).toInt32)), (0, .ref (w.2.1 + 503))]) (st' := []) (fun _ _ k => e_lookC (off := 112) dX12_operation_84 c45 (by decide) rfl k) ?_
        refine es_l (pc' := 198) (ls' := [(1, .int ((S.2.1 516 ((S.1 503 20).toNatClampNeg) : Int64).toInt32)), (0, .ref (w.2.1 + 503))]) (st' := [.int 16]) (fun _ _ k => e_bipush (v := 16) dX12_operation_196 (by decide) k) ?_
        exact es_ireturn (ty := .int) dX12_operation_198 rfl rfl hf
      rw [if_neg c45] at hf
      by_cases c46 : ((S.2.1 516 ((S.1 503 20).toNatClampNeg) : Int64).toInt32 : Int32).toInt ∈ [(289 : Int)]
      · rw [if_pos c46] at hf
        refine es_l (pc' := 187) (ls' := [(1, .int ((S.2.1 516 ((S.1 503 20).toNatClampNeg) : Int64).toInt32)), (0, .ref (w.2.1 + 503))]) (st' := []) (fun _ _ k => e_lookC (off := 103) dX12_operation_84 c46 (by decide) rfl k) ?_
        refine es_l (pc' := 189) (ls' := [(1, .int ((S.2.1 516 ((S.1 503 20).toNatClampNeg) : Int64).toInt32)), (0, .ref (w.2.1 + 503))]) (st' := [.int 13]) (fun _ _ k => e_bipush (v := 13) dX12_operation_187 (by decide) k) ?_
        exact es_ireturn (ty := .int) dX12_operation_189 rfl rfl hf
      rw [if_neg c46] at hf
      by_cases c47 : ((S.2.1 516 ((S.1 503 20).toNatClampNeg) : Int64).toInt32 : Int32).toInt ∈ [(316 : Int)]
      · rw [if_pos c47] at hf
        refine es_l (pc' := 193) (ls' := [(1, .int ((S.2.1 516 ((S.1 503 20).toNatClampNeg) : Int64).toInt32)), (0, .ref (w.2.1 + 503))]) (st' := []) (fun _ _ k => e_lookC (off := 109) dX12_operation_84 c47 (by decide) rfl k) ?_
        refine es_l (pc' := 195) (ls' := [(1, .int ((S.2.1 516 ((S.1 503 20).toNatClampNeg) : Int64).toInt32)), (0, .ref (w.2.1 + 503))]) (st' := [.int 15]) (fun _ _ k => e_bipush (v := 15) dX12_operation_193 (by decide) k) ?_
        exact es_ireturn (ty := .int) dX12_operation_195 rfl rfl hf
      rw [if_neg c47] at hf
      by_cases c48 : ((S.2.1 516 ((S.1 503 20).toNatClampNeg) : Int64).toInt32 : Int32).toInt ∈ [(318 : Int)]
      · rw [if_pos c48] at hf
        refine es_l (pc' := 199) (ls' := [(1, .int ((S.2.1 516 ((S.1 503 20).toNatClampNeg) : Int64).toInt32)), (0, .ref (w.2.1 + 503))]) (st' := []) (fun _ _ k => e_lookC (off := 115) dX12_operation_84 c48 (by decide) rfl k) ?_
        refine es_l (pc' := 201) (ls' := [(1, .int ((S.2.1 516 ((S.1 503 20).toNatClampNeg) : Int64).toInt32)), (0, .ref (w.2.1 + 503))]) (st' := [.int 17]) (fun _ _ k => e_bipush (v := 17) dX12_operation_199 (by decide) k) ?_
        exact es_ireturn (ty := .int) dX12_operation_201 rfl rfl hf
      rw [if_neg c48] at hf
      refine es_l (pc' := 217) (ls' := [(1, .int ((S.2.1 516 ((S.1 503 20).toNatClampNeg) : Int64).toInt32)), (0, .ref (w.2.1 + 503))]) (st' := []) (fun _ _ k => e_lookD (L := [37, 42, 43, 45, 47, 60, 61, 62, 289, 316, 318]) dX12_operation_84 (by  simp only [List.mem_cons, List.not_mem_nil, or_false] at *; omega) (by decide) rfl k) ?_
      refine es_l (pc' := 218) (ls' := [(1, .int ((S.2.1 516 ((S.1 503 20).toNatClampNeg) : Int64).toInt32)), (0, .ref (w.2.1 + 503))]) (st' := [.int 0]) (fun _ _ k => e_iconst (v := 0) dX12_operation_217 (by decide) k) ?_
      exact es_ireturn (ty := .int) dX12_operation_218 rfl rfl hf
    · rw [if_neg c37] at hf
      refine es_l (pc' := 71) (ls' := [(0, .ref (w.2.1 + 503))]) (st' := [.int 0]) (fun _ _ k => e_iconst (v := 0) dX12_operation_70 (by decide) k) ?_
      exact es_ireturn (ty := .int) dX12_operation_71 rfl rfl hf
