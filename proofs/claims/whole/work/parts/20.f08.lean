def f_X11_run_12 (N : Nat)   (S : xS) : Option xr :=
  some (.inr "java/lang/IllegalArgumentException", sE S)
set_option maxRecDepth 100000 in
set_option maxHeartbeats 4000000 in
theorem t_X11_run_12 {l : Launch} {w : xW} {g : Nat → xE} (N : Nat)    (S : xS) (r : xr) (hf : f_X11_run_12 N   S = some r) : ES l w g M_X11_run 12 [] [] S r := by
  unfold f_X11_run_12 at hf
  exact es_throw (names := ["java/lang/RuntimeException", "java/lang/Exception"]) (by decide +kernel) (by decide +kernel) th_k_X11_59 th_i_IllegalArgumentException th_a_X11_59 th_g_X11_59 dX11_run_12 dX11_run_15 dX11_run_16 dX11_run_19 (by decide) (by decide) (by decide) hf
def f_X11_run (N : Nat) (x1 : Int32) (S : xS) : Option xr :=
  if x1 < 1 then
    f_X11_run_12 N S
  else
    if x1 ≤ 20000 then
      if (S.1 0 6) = 0 then
        some (.inr "java/lang/IllegalStateException", sE S)
      else
        xcI (f_X2_goThrough N x1 S) (fun v15 S14 =>
        some (.inl (some (.inl v15)), S14)
        )
    else
      f_X11_run_12 N S
set_option maxRecDepth 100000 in
set_option maxHeartbeats 4000000 in
theorem t_X11_run {l : Launch} {w : xW} {g : Nat → xE} (N : Nat) (x1 : Int32) (S : xS) (r : xr) (hf : f_X11_run N x1 S = some r) : ES l w g M_X11_run 0 (lv_args 0 [.ref (w.2.1 + 0), .int x1]) [] S r := by
  show ES l w g M_X11_run 0 [(0, .ref (w.2.1 + 0)), (1, .int x1)] [] S r
  unfold f_X11_run at hf
  refine es_l (pc' := 2) (ls' := [(0, .ref (w.2.1 + 0)), (1, .int x1)]) (st' := [.int 1, .int x1]) (fun _ _ k => e_iload_n dX11_run_0 1 rfl (e_iconst (v := 1) dX11_run_1 (by decide) k)) ?_
  refine es_br (c := x1 < 1) (tgt := 12) (pf := 5) (st' := []) (fun _ _ a b => e_icmp_lt dX11_run_2 rfl a b) (fun c11 => ?_) (fun c11 => ?_)
  · rw [if_pos c11] at hf
    refine es_sub [] rfl ?_
    exact t_X11_run_12 N S r hf
  · rw [if_neg c11] at hf
    refine es_l (pc' := 9) (ls' := [(0, .ref (w.2.1 + 0)), (1, .int x1)]) (st' := [.int 20000, .int x1]) (fun _ _ k => e_iload_n dX11_run_5 1 rfl (e_sipush (v := 20000) dX11_run_6 (by decide) k)) ?_
    refine es_br (c := x1 ≤ 20000) (tgt := 20) (pf := 12) (st' := []) (fun _ _ a b => e_icmp_le dX11_run_9 rfl a b) (fun c12 => ?_) (fun c12 => ?_)
    · rw [if_pos c12] at hf
      refine es_l (pc' := 21) (ls' := [(0, .ref (w.2.1 + 0)), (1, .int x1)]) (st' := [.ref (w.2.1 + 0)]) (fun _ _ k => e_aload_n dX11_run_20 0 rfl k) ?_
      refine es_get (v := .int (S.1 0 6)) xc_11 dX11_run_21 fl_X11_84 (by decide) (by decide) (cel_0 _ _ _) rfl ?_
      refine es_br (c := (S.1 0 6) = 0) (tgt := 27) (pf := 35) (st' := []) (fun _ _ a b => e_if_ne dX11_run_24 rfl b a) (fun c13 => ?_) (fun c13 => ?_)
      · rw [if_pos c13] at hf
        exact es_throw (names := ["java/lang/RuntimeException", "java/lang/Exception"]) (by decide +kernel) (by decide +kernel) th_k_X11_65 th_i_IllegalStateException th_a_X11_65 th_g_X11_65 dX11_run_27 dX11_run_30 dX11_run_31 dX11_run_34 (by decide) (by decide) (by decide) hf
      · rw [if_neg c13] at hf
        refine es_l (pc' := 36) (ls' := [(0, .ref (w.2.1 + 0)), (1, .int x1)]) (st' := [.ref (w.2.1 + 0)]) (fun _ _ k => e_aload_n dX11_run_35 0 rfl k) ?_
        refine es_get (v := .ref (w.2.1 + 409)) xc_11 dX11_run_36 fl_X11_51 (by decide) (by decide) (cel_0 _ _ _) rfl ?_
        refine es_l (pc' := 40) (ls' := [(0, .ref (w.2.1 + 0)), (1, .int x1)]) (st' := [.int x1, .ref (w.2.1 + 409)]) (fun _ _ k => e_iload_n dX11_run_39 1 rfl k) ?_
        refine es_callVI (as := [.int x1]) (rest := []) hf xc_2 dX11_run_40 cs_X11_run_X2_goThrough ml_X11_98 im_X2_goThrough se_X2_goThrough rfl rfl (Nat.le_of_ble_eq_true rfl) (Nat.le_of_ble_eq_true rfl) (by decide) rfl (cel_409 _ _ _) (fun _ e => t_X2_goThrough N x1 S _ e) (by decide) (fun v15 S14 hf => ?_)
        exact es_ireturn (ty := .int) dX11_run_43 rfl rfl hf
    · rw [if_neg c12] at hf
      refine es_sub [] rfl ?_
      exact t_X11_run_12 N S r hf
def f_X11_steps (N : Nat)  (S : xS) : Option xr :=
  some (.inl (some (.inl (S.1 409 10))), S)
set_option maxRecDepth 100000 in
set_option maxHeartbeats 4000000 in
theorem t_X11_steps {l : Launch} {w : xW} {g : Nat → xE} (N : Nat)  (S : xS) (r : xr) (hf : f_X11_steps N  S = some r) : ES l w g M_X11_steps 0 (lv_args 0 [.ref (w.2.1 + 0)]) [] S r := by
  show ES l w g M_X11_steps 0 [(0, .ref (w.2.1 + 0))] [] S r
  unfold f_X11_steps at hf
  refine es_l (pc' := 1) (ls' := [(0, .ref (w.2.1 + 0))]) (st' := [.ref (w.2.1 + 0)]) (fun _ _ k => e_aload_n dX11_steps_0 0 rfl k) ?_
  refine es_get (v := .ref (w.2.1 + 409)) xc_11 dX11_steps_1 fl_X11_51 (by decide) (by decide) (cel_0 _ _ _) rfl ?_
  refine es_get (v := .int (S.1 409 10)) xc_2 dX11_steps_4 fl_X11_102 (by decide) (by decide) (cel_409 _ _ _) rfl ?_
  exact es_ireturn (ty := .int) dX11_steps_7 rfl rfl hf
def f_X11_printed (N : Nat)  (S : xS) : Option xr :=
  some (.inl (some (.inl (S.1 409 8))), S)
set_option maxRecDepth 100000 in
set_option maxHeartbeats 4000000 in
theorem t_X11_printed {l : Launch} {w : xW} {g : Nat → xE} (N : Nat)  (S : xS) (r : xr) (hf : f_X11_printed N  S = some r) : ES l w g M_X11_printed 0 (lv_args 0 [.ref (w.2.1 + 0)]) [] S r := by
  show ES l w g M_X11_printed 0 [(0, .ref (w.2.1 + 0))] [] S r
  unfold f_X11_printed at hf
  refine es_l (pc' := 1) (ls' := [(0, .ref (w.2.1 + 0))]) (st' := [.ref (w.2.1 + 0)]) (fun _ _ k => e_aload_n dX11_printed_0 0 rfl k) ?_
  refine es_get (v := .ref (w.2.1 + 409)) xc_11 dX11_printed_1 fl_X11_51 (by decide) (by decide) (cel_0 _ _ _) rfl ?_
  refine es_get (v := .int (S.1 409 8)) xc_2 dX11_printed_4 fl_X11_105 (by decide) (by decide) (cel_409 _ _ _) rfl ?_
  exact es_ireturn (ty := .int) dX11_printed_7 rfl rfl hf
def f_X11_print_29 (N : Nat)   (S : xS) : Option xr :=
  some (.inr "java/lang/IndexOutOfBoundsException", sE S)
set_option maxRecDepth 100000 in
set_option maxHeartbeats 4000000 in
theorem t_X11_print_29 {l : Launch} {w : xW} {g : Nat → xE} (N : Nat)    (S : xS) (r : xr) (hf : f_X11_print_29 N   S = some r) : ES l w g M_X11_print 29 [] [] S r := by
  unfold f_X11_print_29 at hf
  exact es_throw (names := ["java/lang/RuntimeException", "java/lang/Exception"]) (by decide +kernel) (by decide +kernel) th_k_X11_108 th_i_IndexOutOfBoundsException th_a_X11_108 th_g_X11_108 dX11_print_29 dX11_print_32 dX11_print_33 dX11_print_36 (by decide) (by decide) (by decide) hf
def f_X11_print (N : Nat) (x1 : Int32) (S : xS) : Option xr :=
  if x1 < 0 then
    f_X11_print_29 N S
  else
    if (S.1 409 8) ≤ x1 then
      f_X11_print_29 N S
    else
      if ((S.1 409 8) - 64) ≤ x1 then
        if xin (x1 - x1 / 64 * 64) 64 then
        some (.inl (some (.inl (S.1 411 ((x1 - x1 / 64 * 64).toNatClampNeg)))), S)
        else none
      else
        f_X11_print_29 N S
set_option maxRecDepth 100000 in
set_option maxHeartbeats 4000000 in
theorem t_X11_print {l : Launch} {w : xW} {g : Nat → xE} (N : Nat) (x1 : Int32) (S : xS) (r : xr) (hf : f_X11_print N x1 S = some r) : ES l w g M_X11_print 0 (lv_args 0 [.ref (w.2.1 + 0), .int x1]) [] S r := by
  show ES l w g M_X11_print 0 [(0, .ref (w.2.1 + 0)), (1, .int x1)] [] S r
  unfold f_X11_print at hf
  refine es_l (pc' := 1) (ls' := [(0, .ref (w.2.1 + 0)), (1, .int x1)]) (st' := [.int x1]) (fun _ _ k => e_iload_n dX11_print_0 1 rfl k) ?_
  refine es_br (c := x1 < 0) (tgt := 29) (pf := 4) (st' := []) (fun _ _ a b => e_if_lt dX11_print_1 rfl a b) (fun c9 => ?_) (fun c9 => ?_)
  · rw [if_pos c9] at hf
    refine es_sub [] rfl ?_
    exact t_X11_print_29 N S r hf
  · rw [if_neg c9] at hf
    refine es_l (pc' := 6) (ls' := [(0, .ref (w.2.1 + 0)), (1, .int x1)]) (st' := [.ref (w.2.1 + 0), .int x1]) (fun _ _ k => e_iload_n dX11_print_4 1 rfl (e_aload_n dX11_print_5 0 rfl k)) ?_
    refine es_get (v := .ref (w.2.1 + 409)) xc_11 dX11_print_6 fl_X11_51 (by decide) (by decide) (cel_0 _ _ _) rfl ?_
    refine es_get (v := .int (S.1 409 8)) xc_2 dX11_print_9 fl_X11_105 (by decide) (by decide) (cel_409 _ _ _) rfl ?_
    refine es_br (c := (S.1 409 8) ≤ x1) (tgt := 29) (pf := 15) (st' := []) (fun _ _ a b => e_icmp_ge dX11_print_12 rfl a b) (fun c10 => ?_) (fun c10 => ?_)
    · rw [if_pos c10] at hf
      refine es_sub [] rfl ?_
      exact t_X11_print_29 N S r hf
    · rw [if_neg c10] at hf
      refine es_l (pc' := 17) (ls' := [(0, .ref (w.2.1 + 0)), (1, .int x1)]) (st' := [.ref (w.2.1 + 0), .int x1]) (fun _ _ k => e_iload_n dX11_print_15 1 rfl (e_aload_n dX11_print_16 0 rfl k)) ?_
      refine es_get (v := .ref (w.2.1 + 409)) xc_11 dX11_print_17 fl_X11_51 (by decide) (by decide) (cel_0 _ _ _) rfl ?_
      refine es_get (v := .int (S.1 409 8)) xc_2 dX11_print_20 fl_X11_105 (by decide) (by decide) (cel_409 _ _ _) rfl ?_
      refine es_l (pc' := 26) (ls' := [(0, .ref (w.2.1 + 0)), (1, .int x1)]) (st' := [.int ((S.1 409 8) - 64), .int x1]) (fun _ _ k => e_bipush (v := 64) dX11_print_23 (by decide) (e_isub dX11_print_25 k)) ?_
      refine es_br (c := ((S.1 409 8) - 64) ≤ x1) (tgt := 37) (pf := 29) (st' := []) (fun _ _ a b => e_icmp_ge dX11_print_26 rfl a b) (fun c11 => ?_) (fun c11 => ?_)
      · rw [if_pos c11] at hf
        refine es_l (pc' := 38) (ls' := [(0, .ref (w.2.1 + 0)), (1, .int x1)]) (st' := [.ref (w.2.1 + 0)]) (fun _ _ k => e_aload_n dX11_print_37 0 rfl k) ?_
        refine es_get (v := .ref (w.2.1 + 409)) xc_11 dX11_print_38 fl_X11_51 (by decide) (by decide) (cel_0 _ _ _) rfl ?_
        refine es_get (v := .ref (w.2.1 + 411)) xc_2 dX11_print_41 fl_X11_111 (by decide) (by decide) (cel_409 _ _ _) rfl ?_
        refine es_l (pc' := 48) (ls' := [(0, .ref (w.2.1 + 0)), (1, .int x1)]) (st' := [.int (x1 - x1 / 64 * 64), .ref (w.2.1 + 411)]) (fun _ _ k => e_iload_n dX11_print_44 1 rfl (e_bipush (v := 64) dX11_print_45 (by decide) (e_irem dX11_print_47 (by decide) k))) ?_
        obtain ⟨g12, hf⟩ := xg hf
        refine es_iald (v := .int (S.1 411 ((x1 - x1 / 64 * 64).toNatClampNeg))) dX11_print_48 (by decide) (cel_411 _ _ _) g12 rfl ?_
        exact es_ireturn (ty := .int) dX11_print_49 rfl rfl hf
      · rw [if_neg c11] at hf
        refine es_sub [] rfl ?_
        exact t_X11_print_29 N S r hf
def f_X11_word_20 (N : Nat)   (S : xS) : Option xr :=
  some (.inr "java/lang/IllegalArgumentException", sE S)
set_option maxRecDepth 100000 in
set_option maxHeartbeats 4000000 in
theorem t_X11_word_20 {l : Launch} {w : xW} {g : Nat → xE} (N : Nat)    (S : xS) (r : xr) (hf : f_X11_word_20 N   S = some r) : ES l w g M_X11_word 20 [] [] S r := by
  unfold f_X11_word_20 at hf
  exact es_throw (names := ["java/lang/RuntimeException", "java/lang/Exception"]) (by decide +kernel) (by decide +kernel) th_k_X11_59 th_i_IllegalArgumentException th_a_X11_59 th_g_X11_59 dX11_word_20 dX11_word_23 dX11_word_24 dX11_word_27 (by decide) (by decide) (by decide) hf
def f_X11_word_45 (N : Nat)  (x3 : Int32) (S : xS) : Option xr :=
  some (.inl (some (.inl x3)), S)
set_option maxRecDepth 100000 in
set_option maxHeartbeats 4000000 in
theorem t_X11_word_45 {l : Launch} {w : xW} {g : Nat → xE} (N : Nat)   (x3 : Int32) (S : xS) (r : xr) (hf : f_X11_word_45 N  x3 S = some r) : ES l w g M_X11_word 45 [(3, .int x3)] [] S r := by
  unfold f_X11_word_45 at hf
  refine es_l (pc' := 46) (ls' := [(3, .int x3)]) (st' := [.int x3]) (fun _ _ k => e_iload_n dX11_word_45 0 rfl k) ?_
  exact es_ireturn (ty := .int) dX11_word_46 rfl rfl hf
def f_X11_word (N : Nat) (x1 : Int32) (x2 : Int32) (S : xS) : Option xr :=
  if x1 < 0 then
    f_X11_word_20 N S
  else
    if 64 ≤ x1 then
      f_X11_word_20 N S
    else
      if x2 < 0 then
        f_X11_word_20 N S
      else
        if x2 ≤ 6 then
          xcI (f_X10_kindOf N x1 S) (fun v26 S25 =>
          if x2 = 0 then
            f_X11_word_45 N v26 S25
          else
            if v26 = 0 then
              f_X11_word_45 N v26 S25
            else
              if xin x1 64 then
              if xin (x2 - 1) 6 then
              some (.inl (some (.inl (S25.1 (32 + x1.toNatClampNeg) ((x2 - 1).toNatClampNeg)))), S25)
              else none
              else none
          )
        else
          f_X11_word_20 N S
set_option maxRecDepth 100000 in
set_option maxHeartbeats 4000000 in
theorem t_X11_word {l : Launch} {w : xW} {g : Nat → xE} (N : Nat) (x1 : Int32) (x2 : Int32) (S : xS) (r : xr) (hf : f_X11_word N x1 x2 S = some r) : ES l w g M_X11_word 0 (lv_args 0 [.ref (w.2.1 + 0), .int x1, .int x2]) [] S r := by
  show ES l w g M_X11_word 0 [(0, .ref (w.2.1 + 0)), (1, .int x1), (2, .int x2)] [] S r
  unfold f_X11_word at hf
  refine es_l (pc' := 1) (ls' := [(0, .ref (w.2.1 + 0)), (1, .int x1), (2, .int x2)]) (st' := [.int x1]) (fun _ _ k => e_iload_n dX11_word_0 1 rfl k) ?_
  refine es_br (c := x1 < 0) (tgt := 20) (pf := 4) (st' := []) (fun _ _ a b => e_if_lt dX11_word_1 rfl a b) (fun c21 => ?_) (fun c21 => ?_)
  · rw [if_pos c21] at hf
    refine es_sub [] rfl ?_
    exact t_X11_word_20 N S r hf
  · rw [if_neg c21] at hf
    refine es_l (pc' := 7) (ls' := [(0, .ref (w.2.1 + 0)), (1, .int x1), (2, .int x2)]) (st' := [.int 64, .int x1]) (fun _ _ k => e_iload_n dX11_word_4 1 rfl (e_bipush (v := 64) dX11_word_5 (by decide) k)) ?_
    refine es_br (c := 64 ≤ x1) (tgt := 20) (pf := 10) (st' := []) (fun _ _ a b => e_icmp_ge dX11_word_7 rfl a b) (fun c22 => ?_) (fun c22 => ?_)
    · rw [if_pos c22] at hf
      refine es_sub [] rfl ?_
      exact t_X11_word_20 N S r hf
    · rw [if_neg c22] at hf
      refine es_l (pc' := 11) (ls' := [(0, .ref (w.2.1 + 0)), (1, .int x1), (2, .int x2)]) (st' := [.int x2]) (fun _ _ k => e_iload_n dX11_word_10 2 rfl k) ?_
      refine es_br (c := x2 < 0) (tgt := 20) (pf := 14) (st' := []) (fun _ _ a b => e_if_lt dX11_word_11 rfl a b) (fun c23 => ?_) (fun c23 => ?_)
      · rw [if_pos c23] at hf
        refine es_sub [] rfl ?_
        exact t_X11_word_20 N S r hf
      · rw [if_neg c23] at hf
        refine es_l (pc' := 17) (ls' := [(0, .ref (w.2.1 + 0)), (1, .int x1), (2, .int x2)]) (st' := [.int 6, .int x2]) (fun _ _ k => e_iload_n dX11_word_14 2 rfl (e_bipush (v := 6) dX11_word_15 (by decide) k)) ?_
        refine es_br (c := x2 ≤ 6) (tgt := 28) (pf := 20) (st' := []) (fun _ _ a b => e_icmp_le dX11_word_17 rfl a b) (fun c24 => ?_) (fun c24 => ?_)
        · rw [if_pos c24] at hf
          refine es_l (pc' := 29) (ls' := [(0, .ref (w.2.1 + 0)), (1, .int x1), (2, .int x2)]) (st' := [.ref (w.2.1 + 0)]) (fun _ _ k => e_aload_n dX11_word_28 0 rfl k) ?_
          refine es_get (v := .ref (w.2.1 + 29)) xc_11 dX11_word_29 fl_X11_26 (by decide) (by decide) (cel_0 _ _ _) rfl ?_
          refine es_l (pc' := 33) (ls' := [(0, .ref (w.2.1 + 0)), (1, .int x1), (2, .int x2)]) (st' := [.int x1, .ref (w.2.1 + 29)]) (fun _ _ k => e_iload_n dX11_word_32 1 rfl k) ?_
          refine es_callVI (as := [.int x1]) (rest := []) hf xc_10 dX11_word_33 cs_X11_word_X10_kindOf ml_X11_115 im_X10_kindOf se_X10_kindOf rfl rfl (Nat.le_of_ble_eq_true rfl) (Nat.le_of_ble_eq_true rfl) (by decide) rfl (cel_29 _ _ _) (fun _ e => t_X10_kindOf N x1 S _ e) (by decide) (fun v26 S25 hf => ?_)
          refine es_l (pc' := 38) (ls' := [(3, .int v26), (0, .ref (w.2.1 + 0)), (1, .int x1), (2, .int x2)]) (st' := [.int x2]) (fun _ _ k => e_istore_n (ls' := [(3, .int v26), (0, .ref (w.2.1 + 0)), (1, .int x1), (2, .int x2)]) dX11_word_36 (by decide) rfl (e_iload_n dX11_word_37 3 rfl k)) ?_
          refine es_br (c := x2 = 0) (tgt := 45) (pf := 41) (st' := []) (fun _ _ a b => e_if_eq dX11_word_38 rfl a b) (fun c27 => ?_) (fun c27 => ?_)
          · rw [if_pos c27] at hf
            refine es_sub [0] rfl ?_
            exact t_X11_word_45 N v26 S25 r hf
          · rw [if_neg c27] at hf
            refine es_l (pc' := 42) (ls' := [(3, .int v26), (0, .ref (w.2.1 + 0)), (1, .int x1), (2, .int x2)]) (st' := [.int v26]) (fun _ _ k => e_iload_n dX11_word_41 0 rfl k) ?_
            refine es_br (c := v26 = 0) (tgt := 45) (pf := 47) (st' := []) (fun _ _ a b => e_if_ne dX11_word_42 rfl b a) (fun c28 => ?_) (fun c28 => ?_)
            · rw [if_pos c28] at hf
              refine es_sub [0] rfl ?_
              exact t_X11_word_45 N v26 S25 r hf
            · rw [if_neg c28] at hf
              refine es_l (pc' := 48) (ls' := [(3, .int v26), (0, .ref (w.2.1 + 0)), (1, .int x1), (2, .int x2)]) (st' := [.ref (w.2.1 + 0)]) (fun _ _ k => e_aload_n dX11_word_47 1 rfl k) ?_
              refine es_get (v := .ref (w.2.1 + 29)) xc_11 dX11_word_48 fl_X11_26 (by decide) (by decide) (cel_0 _ _ _) rfl ?_
              refine es_get (v := .ref (w.2.1 + 31)) xc_10 dX11_word_51 fl_X11_118 (by decide) (by decide) (cel_29 _ _ _) rfl ?_
              refine es_l (pc' := 55) (ls' := [(3, .int v26), (0, .ref (w.2.1 + 0)), (1, .int x1), (2, .int x2)]) (st' := [.int x1, .ref (w.2.1 + 31)]) (fun _ _ k => e_iload_n dX11_word_54 2 rfl k) ?_
              obtain ⟨g29, hf⟩ := xg hf
              refine es_aald (v := .ref (w.2.1 + (32 + x1.toNatClampNeg))) rfl dX11_word_55 (by decide) (cel_31 _ _ _) g29 rfl ?_
              refine es_l (pc' := 59) (ls' := [(3, .int v26), (0, .ref (w.2.1 + 0)), (1, .int x1), (2, .int x2)]) (st' := [.int (x2 - 1), .ref (w.2.1 + (32 + x1.toNatClampNeg))]) (fun _ _ k => e_iload_n dX11_word_56 3 rfl (e_iconst (v := 1) dX11_word_57 (by decide) (e_isub dX11_word_58 k))) ?_
              obtain ⟨g30, hf⟩ := xg hf
              refine es_iald (v := .int (S25.1 (32 + x1.toNatClampNeg) ((x2 - 1).toNatClampNeg))) dX11_word_59 (xReg32_lt (xReg32_at g29)) (cel_r32 (xReg32_at g29) _ _ _) g30 rfl ?_
              exact es_ireturn (ty := .int) dX11_word_60 rfl rfl hf
        · rw [if_neg c24] at hf
          refine es_sub [] rfl ?_
          exact t_X11_word_20 N S r hf
def f_X11_records (N : Nat)  (S : xS) : Option xr :=
  xcJ (f_X10_taken N S) (fun v6 S5 =>
  xcI (f_J13_bitCount_95d88 N v6 S5) (fun v8 S7 =>
  some (.inl (some (.inl v8)), S7)
  )
  )
set_option maxRecDepth 100000 in
set_option maxHeartbeats 4000000 in
theorem t_X11_records {l : Launch} {w : xW} {g : Nat → xE} (N : Nat)  (S : xS) (r : xr) (hf : f_X11_records N  S = some r) : ES l w g M_X11_records 0 (lv_args 0 [.ref (w.2.1 + 0)]) [] S r := by
  show ES l w g M_X11_records 0 [(0, .ref (w.2.1 + 0))] [] S r
  unfold f_X11_records at hf
  refine es_l (pc' := 1) (ls' := [(0, .ref (w.2.1 + 0))]) (st' := [.ref (w.2.1 + 0)]) (fun _ _ k => e_aload_n dX11_records_0 0 rfl k) ?_
  refine es_get (v := .ref (w.2.1 + 29)) xc_11 dX11_records_1 fl_X11_26 (by decide) (by decide) (cel_0 _ _ _) rfl ?_
  refine es_callVJ (as := []) (rest := []) hf xc_10 dX11_records_4 cs_X11_records_X10_taken ml_X11_122 im_X10_taken se_X10_taken rfl rfl (Nat.le_of_ble_eq_true rfl) (Nat.le_of_ble_eq_true rfl) (by decide) rfl (cel_29 _ _ _) (fun _ e => t_X10_taken N  S _ e) (by decide) (fun v6 S5 hf => ?_)
  refine es_callSI (as := [.long v6]) (rest := []) hf dX11_records_7 cs_X11_records_J13_bitCount_95d88 ml_X11_126 st_J13_bitCount_95d88 rfl rfl (Nat.le_of_ble_eq_true rfl) (Nat.le_of_ble_eq_true rfl) (fun _ e => t_J13_bitCount_95d88 N v6 S5 _ e) (by decide) (fun v8 S7 hf => ?_)
  exact es_ireturn (ty := .int) dX11_records_10 rfl rfl hf
def f_X12_nameOf_41 (N : Nat) (k6 : Int64 → Int64 → Int32 → xS → Option xr) (y0 : Int64) (y2 : Int64) (x4 : Int32) (S : xS) : Option xr :=
  k6 y0 y2 (x4 + (-8)) S
set_option maxRecDepth 100000 in
set_option maxHeartbeats 4000000 in
theorem t_X12_nameOf_41 {l : Launch} {w : xW} {g : Nat → xE} (N : Nat) (k6 : Int64 → Int64 → Int32 → xS → Option xr) (hk6 : ∀ (y0 : Int64) (y2 : Int64) (x4 : Int32) (S : xS) (r : xr), k6 y0 y2 x4 S = some r → ES l w g M_X12_nameOf 6 [(0, .long y0), (2, .long y2), (4, .int x4)] [] S r) (y0 : Int64) (y2 : Int64) (x4 : Int32) (S : xS) (r : xr) (hf : f_X12_nameOf_41 N k6 y0 y2 x4 S = some r) : ES l w g M_X12_nameOf 41 [(0, .long y0), (2, .long y2), (4, .int x4)] [] S r := by
  unfold f_X12_nameOf_41 at hf
  refine es_l (pc' := 6) (ls' := [(4, .int (x4 + (-8))), (0, .long y0), (2, .long y2)]) (st' := []) (fun _ _ k => e_iinc (v := x4 + (-8)) (ls' := [(4, .int (x4 + (-8))), (0, .long y0), (2, .long y2)]) dX12_nameOf_41 2 rfl rfl (by decide) rfl (e_goto (tgt := 6) dX12_nameOf_44 rfl k)) ?_
  refine es_sub [1, 2, 0] rfl ?_
  exact hk6 y0 y2 (x4 + (-8)) S r hf
def f_X12_nameOf_6 (N : Nat)  : Nat → Int64 → Int64 → Int32 → xS → Option xr
  | 0, _, _, _, _ => none
  | n + 1, y0, y2, x4, S =>
  if x4 < 0 then
    some (.inl (some (.inr (.inl y2))), S)
  else
    if (lg_cmp (((y0 : Int64) >>> ((x4 : Int32).toInt64 &&& 63)) &&& 255) 0) = 0 then
      f_X12_nameOf_41 N (f_X12_nameOf_6 N n) y0 y2 x4 S
    else
      f_X12_nameOf_41 N (f_X12_nameOf_6 N n) y0 (((y2 * 27) + (((y0 : Int64) >>> ((x4 : Int32).toInt64 &&& 63)) &&& 255)) - 96) x4 S
set_option maxRecDepth 100000 in
set_option maxHeartbeats 4000000 in
theorem t_X12_nameOf_6 {l : Launch} {w : xW} {g : Nat → xE} (N : Nat)   : ∀ (n : Nat) (y0 : Int64) (y2 : Int64) (x4 : Int32) (S : xS) (r : xr), f_X12_nameOf_6 N  n y0 y2 x4 S = some r → ES l w g M_X12_nameOf 6 [(0, .long y0), (2, .long y2), (4, .int x4)] [] S r := by
  intro n
  induction n with
  | zero => intro y0 y2 x4 S r hf; cases hf
  | succ n ih =>
    intro y0 y2 x4 S r hf
    rw [f_X12_nameOf_6.eq_2] at hf
    refine es_l (pc' := 8) (ls' := [(0, .long y0), (2, .long y2), (4, .int x4)]) (st' := [.int x4]) (fun _ _ k => e_iload dX12_nameOf_6 2 rfl k) ?_
    refine es_br (c := x4 < 0) (tgt := 47) (pf := 11) (st' := []) (fun _ _ a b => e_if_lt dX12_nameOf_8 rfl a b) (fun c5 => ?_) (fun c5 => ?_)
    · rw [if_pos c5] at hf
      refine es_l (pc' := 48) (ls' := [(0, .long y0), (2, .long y2), (4, .int x4)]) (st' := [.long y2]) (fun _ _ k => e_lload_n dX12_nameOf_47 1 rfl k) ?_
      exact es_lreturn dX12_nameOf_48 rfl hf
    · rw [if_neg c5] at hf
      refine es_l (pc' := 25) (ls' := [(5, .long (((y0 : Int64) >>> ((x4 : Int32).toInt64 &&& 63)) &&& 255)), (0, .long y0), (2, .long y2), (4, .int x4)]) (st' := [.int (lg_cmp (((y0 : Int64) >>> ((x4 : Int32).toInt64 &&& 63)) &&& 255) 0)]) (fun _ _ k => e_lload_n dX12_nameOf_11 0 rfl (e_iload dX12_nameOf_12 2 rfl (e_lshr (v := (y0 : Int64) >>> ((x4 : Int32).toInt64 &&& 63)) dX12_nameOf_14 rfl (e_ldc2 dX12_nameOf_15 kj_X12_202 (e_land dX12_nameOf_18 (e_lstore (ls' := [(5, .long (((y0 : Int64) >>> ((x4 : Int32).toInt64 &&& 63)) &&& 255)), (0, .long y0), (2, .long y2), (4, .int x4)]) dX12_nameOf_19 (by decide) rfl (e_lload dX12_nameOf_21 0 rfl (e_lconst (v := 0) dX12_nameOf_23 (by decide) (e_lcmp dX12_nameOf_24 k))))))))) ?_
      refine es_br (c := (lg_cmp (((y0 : Int64) >>> ((x4 : Int32).toInt64 &&& 63)) &&& 255) 0) = 0) (tgt := 41) (pf := 28) (st' := []) (fun _ _ a b => e_if_eq dX12_nameOf_25 rfl a b) (fun c6 => ?_) (fun c6 => ?_)
      · rw [if_pos c6] at hf
        refine es_sub [1, 2, 3] rfl ?_
        exact t_X12_nameOf_41 N (f_X12_nameOf_6 N n) ih y0 y2 x4 S r hf
      · rw [if_neg c6] at hf
        refine es_l (pc' := 41) (ls' := [(2, .long (((y2 * 27) + (((y0 : Int64) >>> ((x4 : Int32).toInt64 &&& 63)) &&& 255)) - 96)), (5, .long (((y0 : Int64) >>> ((x4 : Int32).toInt64 &&& 63)) &&& 255)), (0, .long y0), (4, .int x4)]) (st' := []) (fun _ _ k => e_lload_n dX12_nameOf_28 2 rfl (e_ldc2 dX12_nameOf_29 kj_X12_204 (e_lmul dX12_nameOf_32 (e_lload dX12_nameOf_33 0 rfl (e_ladd dX12_nameOf_35 (e_ldc2 dX12_nameOf_36 kj_X12_206 (e_lsub dX12_nameOf_39 (e_lstore_n (ls' := [(2, .long (((y2 * 27) + (((y0 : Int64) >>> ((x4 : Int32).toInt64 &&& 63)) &&& 255)) - 96)), (5, .long (((y0 : Int64) >>> ((x4 : Int32).toInt64 &&& 63)) &&& 255)), (0, .long y0), (4, .int x4)]) dX12_nameOf_40 (by decide) rfl k)))))))) ?_
        refine es_sub [2, 0, 3] rfl ?_
        exact t_X12_nameOf_41 N (f_X12_nameOf_6 N n) ih y0 (((y2 * 27) + (((y0 : Int64) >>> ((x4 : Int32).toInt64 &&& 63)) &&& 255)) - 96) x4 S r hf
def f_X12_nameOf (N : Nat) (y0 : Int64) (S : xS) : Option xr :=
  f_X12_nameOf_6 N N y0 0 56 S
set_option maxRecDepth 100000 in
set_option maxHeartbeats 4000000 in
theorem t_X12_nameOf {l : Launch} {w : xW} {g : Nat → xE} (N : Nat) (y0 : Int64) (S : xS) (r : xr) (hf : f_X12_nameOf N y0 S = some r) : ES l w g M_X12_nameOf 0 (lv_args 0 [.long y0]) [] S r := by
  show ES l w g M_X12_nameOf 0 [(0, .long y0)] [] S r
  unfold f_X12_nameOf at hf
  refine es_l (pc' := 6) (ls' := [(4, .int 56), (2, .long 0), (0, .long y0)]) (st' := []) (fun _ _ k => e_lconst (v := 0) dX12_nameOf_0 (by decide) (e_lstore_n (ls' := [(2, .long 0), (0, .long y0)]) dX12_nameOf_1 (by decide) rfl (e_bipush (v := 56) dX12_nameOf_2 (by decide) (e_istore (ls' := [(4, .int 56), (2, .long 0), (0, .long y0)]) dX12_nameOf_4 (by decide) rfl k)))) ?_
  refine es_sub [2, 1, 0] rfl ?_
  exact t_X12_nameOf_6 N N y0 0 56 S r hf
def f_X12_wordIs (N : Nat) (x1 : Int32) (y2 : Int64) (S : xS) : Option xr :=
  xcJ (f_X12_nameOf N y2 S) (fun v5 S4 =>
  if xin x1 20 then
  some (.inl none, sJ S4 517 x1.toNatClampNeg v5)
  else none
  )
set_option maxRecDepth 100000 in
set_option maxHeartbeats 4000000 in
theorem t_X12_wordIs {l : Launch} {w : xW} {g : Nat → xE} (N : Nat) (x1 : Int32) (y2 : Int64) (S : xS) (r : xr) (hf : f_X12_wordIs N x1 y2 S = some r) : ES l w g M_X12_wordIs 0 (lv_args 0 [.ref (w.2.1 + 503), .int x1, .long y2]) [] S r := by
  show ES l w g M_X12_wordIs 0 [(0, .ref (w.2.1 + 503)), (1, .int x1), (2, .long y2)] [] S r
  unfold f_X12_wordIs at hf
  refine es_l (pc' := 1) (ls' := [(0, .ref (w.2.1 + 503)), (1, .int x1), (2, .long y2)]) (st' := [.ref (w.2.1 + 503)]) (fun _ _ k => e_aload_n dX12_wordIs_0 0 rfl k) ?_
  refine es_get (v := .ref (w.2.1 + 517)) xc_12 dX12_wordIs_1 fl_X12_69 (by decide) (by decide) (cel_503 _ _ _) rfl ?_
  refine es_l (pc' := 6) (ls' := [(0, .ref (w.2.1 + 503)), (1, .int x1), (2, .long y2)]) (st' := [.long y2, .int x1, .ref (w.2.1 + 517)]) (fun _ _ k => e_iload_n dX12_wordIs_4 1 rfl (e_lload_n dX12_wordIs_5 2 rfl k)) ?_
  refine es_callSJ (as := [.long y2]) (rest := [.int x1, .ref (w.2.1 + 517)]) hf dX12_wordIs_6 cs_X12_wordIs_X12_nameOf ml_X12_208 st_X12_nameOf rfl rfl (Nat.le_of_ble_eq_true rfl) (Nat.le_of_ble_eq_true rfl) (fun _ e => t_X12_nameOf N y2 S _ e) (by decide) (fun v5 S4 hf => ?_)
  obtain ⟨g6, hf⟩ := xg hf
  refine es_last dX12_wordIs_9 (by decide) (cel_517 _) g6 ?_
  exact es_return dX12_wordIs_10 rfl hf
def f_X12_letter_17 (N : Nat)  (s0 : Int32) (S : xS) : Option xr :=
  if xbo s0 then
  some (.inl (some (.inl s0)), S)
  else none
set_option maxRecDepth 100000 in
set_option maxHeartbeats 4000000 in
theorem t_X12_letter_17 {l : Launch} {w : xW} {g : Nat → xE} (N : Nat)   (s0 : Int32) (S : xS) (r : xr) (hf : f_X12_letter_17 N  s0 S = some r) : ES l w g M_X12_letter 17 [] [.int s0] S r := by
  unfold f_X12_letter_17 at hf
  obtain ⟨g7, hf⟩ := xg hf
  exact es_ireturn (ty := .boolean) dX12_letter_17 rfl (xbo_n g7) hf
def f_X12_letter_16 (N : Nat)   (S : xS) : Option xr :=
  f_X12_letter_17 N 0 S
set_option maxRecDepth 100000 in
set_option maxHeartbeats 4000000 in
theorem t_X12_letter_16 {l : Launch} {w : xW} {g : Nat → xE} (N : Nat)    (S : xS) (r : xr) (hf : f_X12_letter_16 N   S = some r) : ES l w g M_X12_letter 16 [] [] S r := by
  unfold f_X12_letter_16 at hf
  refine es_l (pc' := 17) (ls' := []) (st' := [.int 0]) (fun _ _ k => e_iconst (v := 0) dX12_letter_16 (by decide) k) ?_
  exact t_X12_letter_17 N 0 S r hf
def f_X12_letter (N : Nat) (x0 : Int32) (S : xS) : Option xr :=
  if x0 < 97 then
    f_X12_letter_16 N S
  else
    if 122 < x0 then
      f_X12_letter_16 N S
    else
      f_X12_letter_17 N 1 S
set_option maxRecDepth 100000 in
set_option maxHeartbeats 4000000 in
theorem t_X12_letter {l : Launch} {w : xW} {g : Nat → xE} (N : Nat) (x0 : Int32) (S : xS) (r : xr) (hf : f_X12_letter N x0 S = some r) : ES l w g M_X12_letter 0 (lv_args 0 [.int x0]) [] S r := by
  show ES l w g M_X12_letter 0 [(0, .int x0)] [] S r
  unfold f_X12_letter at hf
  refine es_l (pc' := 3) (ls' := [(0, .int x0)]) (st' := [.int 97, .int x0]) (fun _ _ k => e_iload_n dX12_letter_0 0 rfl (e_bipush (v := 97) dX12_letter_1 (by decide) k)) ?_
  refine es_br (c := x0 < 97) (tgt := 16) (pf := 6) (st' := []) (fun _ _ a b => e_icmp_lt dX12_letter_3 rfl a b) (fun c8 => ?_) (fun c8 => ?_)
  · rw [if_pos c8] at hf
    refine es_sub [] rfl ?_
    exact t_X12_letter_16 N S r hf
  · rw [if_neg c8] at hf
    refine es_l (pc' := 9) (ls' := [(0, .int x0)]) (st' := [.int 122, .int x0]) (fun _ _ k => e_iload_n dX12_letter_6 0 rfl (e_bipush (v := 122) dX12_letter_7 (by decide) k)) ?_
    refine es_br (c := 122 < x0) (tgt := 16) (pf := 12) (st' := []) (fun _ _ a b => e_icmp_gt dX12_letter_9 rfl a b) (fun c9 => ?_) (fun c9 => ?_)
    · rw [if_pos c9] at hf
      refine es_sub [] rfl ?_
      exact t_X12_letter_16 N S r hf
    · rw [if_neg c9] at hf
      refine es_l (pc' := 17) (ls' := [(0, .int x0)]) (st' := [.int 1]) (fun _ _ k => e_iconst (v := 1) dX12_letter_12 (by decide) (e_goto (tgt := 17) dX12_letter_13 rfl k)) ?_
      refine es_sub [] rfl ?_
      exact t_X12_letter_17 N 1 S r hf
def f_X12_digit_17 (N : Nat)  (s0 : Int32) (S : xS) : Option xr :=
  if xbo s0 then
  some (.inl (some (.inl s0)), S)
  else none
set_option maxRecDepth 100000 in
set_option maxHeartbeats 4000000 in
theorem t_X12_digit_17 {l : Launch} {w : xW} {g : Nat → xE} (N : Nat)   (s0 : Int32) (S : xS) (r : xr) (hf : f_X12_digit_17 N  s0 S = some r) : ES l w g M_X12_digit 17 [] [.int s0] S r := by
  unfold f_X12_digit_17 at hf
  obtain ⟨g7, hf⟩ := xg hf
  exact es_ireturn (ty := .boolean) dX12_digit_17 rfl (xbo_n g7) hf
def f_X12_digit_16 (N : Nat)   (S : xS) : Option xr :=
  f_X12_digit_17 N 0 S
set_option maxRecDepth 100000 in
set_option maxHeartbeats 4000000 in
theorem t_X12_digit_16 {l : Launch} {w : xW} {g : Nat → xE} (N : Nat)    (S : xS) (r : xr) (hf : f_X12_digit_16 N   S = some r) : ES l w g M_X12_digit 16 [] [] S r := by
  unfold f_X12_digit_16 at hf
  refine es_l (pc' := 17) (ls' := []) (st' := [.int 0]) (fun _ _ k => e_iconst (v := 0) dX12_digit_16 (by decide) k) ?_
  exact t_X12_digit_17 N 0 S r hf
def f_X12_digit (N : Nat) (x0 : Int32) (S : xS) : Option xr :=
  if x0 < 48 then
    f_X12_digit_16 N S
  else
    if 57 < x0 then
      f_X12_digit_16 N S
    else
      f_X12_digit_17 N 1 S
set_option maxRecDepth 100000 in
set_option maxHeartbeats 4000000 in
theorem t_X12_digit {l : Launch} {w : xW} {g : Nat → xE} (N : Nat) (x0 : Int32) (S : xS) (r : xr) (hf : f_X12_digit N x0 S = some r) : ES l w g M_X12_digit 0 (lv_args 0 [.int x0]) [] S r := by
  show ES l w g M_X12_digit 0 [(0, .int x0)] [] S r
  unfold f_X12_digit at hf
  refine es_l (pc' := 3) (ls' := [(0, .int x0)]) (st' := [.int 48, .int x0]) (fun _ _ k => e_iload_n dX12_digit_0 0 rfl (e_bipush (v := 48) dX12_digit_1 (by decide) k)) ?_
  refine es_br (c := x0 < 48) (tgt := 16) (pf := 6) (st' := []) (fun _ _ a b => e_icmp_lt dX12_digit_3 rfl a b) (fun c8 => ?_) (fun c8 => ?_)
  · rw [if_pos c8] at hf
    refine es_sub [] rfl ?_
    exact t_X12_digit_16 N S r hf
  · rw [if_neg c8] at hf
    refine es_l (pc' := 9) (ls' := [(0, .int x0)]) (st' := [.int 57, .int x0]) (fun _ _ k => e_iload_n dX12_digit_6 0 rfl (e_bipush (v := 57) dX12_digit_7 (by decide) k)) ?_
    refine es_br (c := 57 < x0) (tgt := 16) (pf := 12) (st' := []) (fun _ _ a b => e_icmp_gt dX12_digit_9 rfl a b) (fun c9 => ?_) (fun c9 => ?_)
    · rw [if_pos c9] at hf
      refine es_sub [] rfl ?_
      exact t_X12_digit_16 N S r hf
    · rw [if_neg c9] at hf
      refine es_l (pc' := 17) (ls' := [(0, .int x0)]) (st' := [.int 1]) (fun _ _ k => e_iconst (v := 1) dX12_digit_12 (by decide) (e_goto (tgt := 17) dX12_digit_13 rfl k)) ?_
      refine es_sub [] rfl ?_
      exact t_X12_digit_17 N 1 S r hf
def f_X12_byteAt_18 (N : Nat)  (s0 : Int32) (S : xS) : Option xr :=
  some (.inl (some (.inl s0)), S)
set_option maxRecDepth 100000 in
set_option maxHeartbeats 4000000 in
theorem t_X12_byteAt_18 {l : Launch} {w : xW} {g : Nat → xE} (N : Nat)   (s0 : Int32) (S : xS) (r : xr) (hf : f_X12_byteAt_18 N  s0 S = some r) : ES l w g M_X12_byteAt 18 [] [.int s0] S r := by
  unfold f_X12_byteAt_18 at hf
  exact es_ireturn (ty := .int) dX12_byteAt_18 rfl rfl hf
def f_X12_byteAt (N : Nat) (x1 : Int32) (S : xS) : Option xr :=
  if (S.1 503 2) ≤ x1 then
    f_X12_byteAt_18 N ((-1)) S
  else
    if xin x1 500 then
    f_X12_byteAt_18 N (S.1 504 x1.toNatClampNeg) S
    else none
set_option maxRecDepth 100000 in
set_option maxHeartbeats 4000000 in
theorem t_X12_byteAt {l : Launch} {w : xW} {g : Nat → xE} (N : Nat) (x1 : Int32) (S : xS) (r : xr) (hf : f_X12_byteAt N x1 S = some r) : ES l w g M_X12_byteAt 0 (lv_args 0 [.ref (w.2.1 + 503), .int x1]) [] S r := by
  show ES l w g M_X12_byteAt 0 [(0, .ref (w.2.1 + 503)), (1, .int x1)] [] S r
  unfold f_X12_byteAt at hf
  refine es_l (pc' := 2) (ls' := [(0, .ref (w.2.1 + 503)), (1, .int x1)]) (st' := [.ref (w.2.1 + 503), .int x1]) (fun _ _ k => e_iload_n dX12_byteAt_0 1 rfl (e_aload_n dX12_byteAt_1 0 rfl k)) ?_
  refine es_get (v := .int (S.1 503 2)) xc_12 dX12_byteAt_2 fl_X12_17 (by decide) (by decide) (cel_503 _ _ _) rfl ?_
  refine es_br (c := (S.1 503 2) ≤ x1) (tgt := 17) (pf := 8) (st' := []) (fun _ _ a b => e_icmp_ge dX12_byteAt_5 rfl a b) (fun c5 => ?_) (fun c5 => ?_)
  · rw [if_pos c5] at hf
    refine es_l (pc' := 18) (ls' := [(0, .ref (w.2.1 + 503)), (1, .int x1)]) (st' := [.int ((-1))]) (fun _ _ k => e_iconst (v := (-1)) dX12_byteAt_17 (by decide) k) ?_
    refine es_sub [] rfl ?_
    exact t_X12_byteAt_18 N ((-1)) S r hf
  · rw [if_neg c5] at hf
    refine es_l (pc' := 9) (ls' := [(0, .ref (w.2.1 + 503)), (1, .int x1)]) (st' := [.ref (w.2.1 + 503)]) (fun _ _ k => e_aload_n dX12_byteAt_8 0 rfl k) ?_
    refine es_get (v := .ref (w.2.1 + 504)) xc_12 dX12_byteAt_9 fl_X12_13 (by decide) (by decide) (cel_503 _ _ _) rfl ?_
    refine es_l (pc' := 13) (ls' := [(0, .ref (w.2.1 + 503)), (1, .int x1)]) (st' := [.int x1, .ref (w.2.1 + 504)]) (fun _ _ k => e_iload_n dX12_byteAt_12 1 rfl k) ?_
    obtain ⟨g6, hf⟩ := xg hf
    refine es_iald (v := .int (S.1 504 x1.toNatClampNeg)) dX12_byteAt_13 (by decide) (cel_504 _ _ _) g6 rfl ?_
    refine es_l (pc' := 18) (ls' := [(0, .ref (w.2.1 + 503)), (1, .int x1)]) (st' := [.int (S.1 504 x1.toNatClampNeg)]) (fun _ _ k => e_goto (tgt := 18) dX12_byteAt_14 rfl k) ?_
    refine es_sub [] rfl ?_
    exact t_X12_byteAt_18 N (S.1 504 x1.toNatClampNeg) S r hf
def f_X12_token_446 (N : Nat)  (s0 : Int32) (S : xS) : Option xr :=
  some (.inl (some (.inl s0)), S)
set_option maxRecDepth 100000 in
set_option maxHeartbeats 4000000 in
theorem t_X12_token_446 {l : Launch} {w : xW} {g : Nat → xE} (N : Nat)   (s0 : Int32) (S : xS) (r : xr) (hf : f_X12_token_446 N  s0 S = some r) : ES l w g M_X12_token 446 [] [.int s0] S r := by
  unfold f_X12_token_446 at hf
  exact es_ireturn (ty := .int) dX12_token_446 rfl rfl hf
def f_X12_token_421 (N : Nat)  (x1 : Int32) (x6 : Int32) (s0 : Int32) (S : xS) : Option xr :=
  if x6 = 0 then
    if s0 = 0 then
      f_X12_token_446 N ((-1)) S
    else
      f_X12_token_446 N (x1 + 1) S
  else
    f_X12_token_446 N (x1 + 2) S
set_option maxRecDepth 100000 in
set_option maxHeartbeats 4000000 in
theorem t_X12_token_421 {l : Launch} {w : xW} {g : Nat → xE} (N : Nat)   (x1 : Int32) (x6 : Int32) (s0 : Int32) (S : xS) (r : xr) (hf : f_X12_token_421 N  x1 x6 s0 S = some r) : ES l w g M_X12_token 421 [(1, .int x1), (6, .int x6)] [.int s0] S r := by
  unfold f_X12_token_421 at hf
  refine es_l (pc' := 425) (ls' := [(7, .int s0), (1, .int x1), (6, .int x6)]) (st' := [.int x6]) (fun _ _ k => e_istore (ls' := [(7, .int s0), (1, .int x1), (6, .int x6)]) dX12_token_421 (by decide) rfl (e_iload dX12_token_423 2 rfl k)) ?_
  refine es_br (c := x6 = 0) (tgt := 434) (pf := 428) (st' := []) (fun _ _ a b => e_if_eq dX12_token_425 rfl a b) (fun c123 => ?_) (fun c123 => ?_)
  · rw [if_pos c123] at hf
    refine es_l (pc' := 436) (ls' := [(7, .int s0), (1, .int x1), (6, .int x6)]) (st' := [.int s0]) (fun _ _ k => e_iload dX12_token_434 0 rfl k) ?_
    refine es_br (c := s0 = 0) (tgt := 445) (pf := 439) (st' := []) (fun _ _ a b => e_if_eq dX12_token_436 rfl a b) (fun c124 => ?_) (fun c124 => ?_)
    · rw [if_pos c124] at hf
      refine es_l (pc' := 446) (ls' := [(7, .int s0), (1, .int x1), (6, .int x6)]) (st' := [.int ((-1))]) (fun _ _ k => e_iconst (v := (-1)) dX12_token_445 (by decide) k) ?_
      refine es_sub [] rfl ?_
      exact t_X12_token_446 N ((-1)) S r hf
    · rw [if_neg c124] at hf
      refine es_l (pc' := 446) (ls' := [(7, .int s0), (1, .int x1), (6, .int x6)]) (st' := [.int (x1 + 1)]) (fun _ _ k => e_iload_n dX12_token_439 1 rfl (e_iconst (v := 1) dX12_token_440 (by decide) (e_iadd dX12_token_441 (e_goto (tgt := 446) dX12_token_442 rfl k)))) ?_
      refine es_sub [] rfl ?_
      exact t_X12_token_446 N (x1 + 1) S r hf
  · rw [if_neg c123] at hf
    refine es_l (pc' := 446) (ls' := [(7, .int s0), (1, .int x1), (6, .int x6)]) (st' := [.int (x1 + 2)]) (fun _ _ k => e_iload_n dX12_token_428 1 rfl (e_iconst (v := 2) dX12_token_429 (by decide) (e_iadd dX12_token_430 (e_goto (tgt := 446) dX12_token_431 rfl k)))) ?_
    refine es_sub [] rfl ?_
    exact t_X12_token_446 N (x1 + 2) S r hf
def f_X12_token_416 (N : Nat)  (x1 : Int32) (x6 : Int32) (S : xS) : Option xr :=
  f_X12_token_421 N x1 x6 1 S
set_option maxRecDepth 100000 in
set_option maxHeartbeats 4000000 in
theorem t_X12_token_416 {l : Launch} {w : xW} {g : Nat → xE} (N : Nat)   (x1 : Int32) (x6 : Int32) (S : xS) (r : xr) (hf : f_X12_token_416 N  x1 x6 S = some r) : ES l w g M_X12_token 416 [(1, .int x1), (6, .int x6)] [] S r := by
  unfold f_X12_token_416 at hf
  refine es_l (pc' := 421) (ls' := [(1, .int x1), (6, .int x6)]) (st' := [.int 1]) (fun _ _ k => e_iconst (v := 1) dX12_token_416 (by decide) (e_goto (tgt := 421) dX12_token_417 rfl k)) ?_
  exact t_X12_token_421 N x1 x6 1 S r hf
def f_X12_token_319 (N : Nat)  (x1 : Int32) (x2 : Int32) (x6 : Int32) (sy0 : Int64) (s1 : Int32) (S : xS) : Option xr :=
  if xin s1 152 then
  if x2 = 61 then
    f_X12_token_416 N x1 x6 (sJ S 516 s1.toNatClampNeg sy0)
  else
    if x2 = 60 then
      f_X12_token_416 N x1 x6 (sJ S 516 s1.toNatClampNeg sy0)
    else
      if x2 = 62 then
        f_X12_token_416 N x1 x6 (sJ S 516 s1.toNatClampNeg sy0)
      else
        if x2 = 43 then
          f_X12_token_416 N x1 x6 (sJ S 516 s1.toNatClampNeg sy0)
        else
          if x2 = 45 then
            f_X12_token_416 N x1 x6 (sJ S 516 s1.toNatClampNeg sy0)
          else
            if x2 = 42 then
              f_X12_token_416 N x1 x6 (sJ S 516 s1.toNatClampNeg sy0)
            else
              if x2 = 47 then
                f_X12_token_416 N x1 x6 (sJ S 516 s1.toNatClampNeg sy0)
              else
                if x2 = 37 then
                  f_X12_token_416 N x1 x6 (sJ S 516 s1.toNatClampNeg sy0)
                else
                  if x2 = 40 then
                    f_X12_token_416 N x1 x6 (sJ S 516 s1.toNatClampNeg sy0)
                  else
                    if x2 = 41 then
                      f_X12_token_416 N x1 x6 (sJ S 516 s1.toNatClampNeg sy0)
                    else
                      if x2 = 123 then
                        f_X12_token_416 N x1 x6 (sJ S 516 s1.toNatClampNeg sy0)
                      else
                        if x2 = 125 then
                          f_X12_token_416 N x1 x6 (sJ S 516 s1.toNatClampNeg sy0)
                        else
                          if x2 = 44 then
                            f_X12_token_416 N x1 x6 (sJ S 516 s1.toNatClampNeg sy0)
                          else
                            if x2 = 59 then
                              f_X12_token_416 N x1 x6 (sJ S 516 s1.toNatClampNeg sy0)
                            else
                              if x2 = 58 then
                                f_X12_token_416 N x1 x6 (sJ S 516 s1.toNatClampNeg sy0)
                              else
                                if x2 = 46 then
                                  f_X12_token_416 N x1 x6 (sJ S 516 s1.toNatClampNeg sy0)
                                else
                                  f_X12_token_421 N x1 x6 0 (sJ S 516 s1.toNatClampNeg sy0)
  else none
set_option maxRecDepth 100000 in
set_option maxHeartbeats 4000000 in
theorem t_X12_token_319 {l : Launch} {w : xW} {g : Nat → xE} (N : Nat)   (x1 : Int32) (x2 : Int32) (x6 : Int32) (sy0 : Int64) (s1 : Int32) (S : xS) (r : xr) (hf : f_X12_token_319 N  x1 x2 x6 sy0 s1 S = some r) : ES l w g M_X12_token 319 [(1, .int x1), (2, .int x2), (6, .int x6)] [.long sy0, .int s1, .ref (w.2.1 + 516)] S r := by
  unfold f_X12_token_319 at hf
  obtain ⟨g125, hf⟩ := xg hf
  refine es_last dX12_token_319 (by decide) (cel_516 _) g125 ?_
  refine es_l (pc' := 323) (ls' := [(1, .int x1), (2, .int x2), (6, .int x6)]) (st' := [.int 61, .int x2]) (fun _ _ k => e_iload_n dX12_token_320 1 rfl (e_bipush (v := 61) dX12_token_321 (by decide) k)) ?_
  refine es_br (c := x2 = 61) (tgt := 416) (pf := 326) (st' := []) (fun _ _ a b => e_icmp_eq dX12_token_323 rfl a b) (fun c126 => ?_) (fun c126 => ?_)
  · rw [if_pos c126] at hf
    refine es_sub [0, 2] rfl ?_
    exact t_X12_token_416 N x1 x6 (sJ S 516 s1.toNatClampNeg sy0) r hf
  · rw [if_neg c126] at hf
    refine es_l (pc' := 329) (ls' := [(1, .int x1), (2, .int x2), (6, .int x6)]) (st' := [.int 60, .int x2]) (fun _ _ k => e_iload_n dX12_token_326 1 rfl (e_bipush (v := 60) dX12_token_327 (by decide) k)) ?_
    refine es_br (c := x2 = 60) (tgt := 416) (pf := 332) (st' := []) (fun _ _ a b => e_icmp_eq dX12_token_329 rfl a b) (fun c127 => ?_) (fun c127 => ?_)
    · rw [if_pos c127] at hf
      refine es_sub [0, 2] rfl ?_
      exact t_X12_token_416 N x1 x6 (sJ S 516 s1.toNatClampNeg sy0) r hf
    · rw [if_neg c127] at hf
      refine es_l (pc' := 335) (ls' := [(1, .int x1), (2, .int x2), (6, .int x6)]) (st' := [.int 62, .int x2]) (fun _ _ k => e_iload_n dX12_token_332 1 rfl (e_bipush (v := 62) dX12_token_333 (by decide) k)) ?_
      refine es_br (c := x2 = 62) (tgt := 416) (pf := 338) (st' := []) (fun _ _ a b => e_icmp_eq dX12_token_335 rfl a b) (fun c128 => ?_) (fun c128 => ?_)
      · rw [if_pos c128] at hf
        refine es_sub [0, 2] rfl ?_
        exact t_X12_token_416 N x1 x6 (sJ S 516 s1.toNatClampNeg sy0) r hf
      · rw [if_neg c128] at hf
        refine es_l (pc' := 341) (ls' := [(1, .int x1), (2, .int x2), (6, .int x6)]) (st' := [.int 43, .int x2]) (fun _ _ k => e_iload_n dX12_token_338 1 rfl (e_bipush (v := 43) dX12_token_339 (by decide) k)) ?_
        refine es_br (c := x2 = 43) (tgt := 416) (pf := 344) (st' := []) (fun _ _ a b => e_icmp_eq dX12_token_341 rfl a b) (fun c129 => ?_) (fun c129 => ?_)
        · rw [if_pos c129] at hf
          refine es_sub [0, 2] rfl ?_
          exact t_X12_token_416 N x1 x6 (sJ S 516 s1.toNatClampNeg sy0) r hf
        · rw [if_neg c129] at hf
          refine es_l (pc' := 347) (ls' := [(1, .int x1), (2, .int x2), (6, .int x6)]) (st' := [.int 45, .int x2]) (fun _ _ k => e_iload_n dX12_token_344 1 rfl (e_bipush (v := 45) dX12_token_345 (by decide) k)) ?_
          refine es_br (c := x2 = 45) (tgt := 416) (pf := 350) (st' := []) (fun _ _ a b => e_icmp_eq dX12_token_347 rfl a b) (fun c130 => ?_) (fun c130 => ?_)
          · rw [if_pos c130] at hf
            refine es_sub [0, 2] rfl ?_
            exact t_X12_token_416 N x1 x6 (sJ S 516 s1.toNatClampNeg sy0) r hf
          · rw [if_neg c130] at hf
            refine es_l (pc' := 353) (ls' := [(1, .int x1), (2, .int x2), (6, .int x6)]) (st' := [.int 42, .int x2]) (fun _ _ k => e_iload_n dX12_token_350 1 rfl (e_bipush (v := 42) dX12_token_351 (by decide) k)) ?_
            refine es_br (c := x2 = 42) (tgt := 416) (pf := 356) (st' := []) (fun _ _ a b => e_icmp_eq dX12_token_353 rfl a b) (fun c131 => ?_) (fun c131 => ?_)
            · rw [if_pos c131] at hf
              refine es_sub [0, 2] rfl ?_
              exact t_X12_token_416 N x1 x6 (sJ S 516 s1.toNatClampNeg sy0) r hf
            · rw [if_neg c131] at hf
              refine es_l (pc' := 359) (ls' := [(1, .int x1), (2, .int x2), (6, .int x6)]) (st' := [.int 47, .int x2]) (fun _ _ k => e_iload_n dX12_token_356 1 rfl (e_bipush (v := 47) dX12_token_357 (by decide) k)) ?_
              refine es_br (c := x2 = 47) (tgt := 416) (pf := 362) (st' := []) (fun _ _ a b => e_icmp_eq dX12_token_359 rfl a b) (fun c132 => ?_) (fun c132 => ?_)
              · rw [if_pos c132] at hf
                refine es_sub [0, 2] rfl ?_
                exact t_X12_token_416 N x1 x6 (sJ S 516 s1.toNatClampNeg sy0) r hf
              · rw [if_neg c132] at hf
                refine es_l (pc' := 365) (ls' := [(1, .int x1), (2, .int x2), (6, .int x6)]) (st' := [.int 37, .int x2]) (fun _ _ k => e_iload_n dX12_token_362 1 rfl (e_bipush (v := 37) dX12_token_363 (by decide) k)) ?_
                refine es_br (c := x2 = 37) (tgt := 416) (pf := 368) (st' := []) (fun _ _ a b => e_icmp_eq dX12_token_365 rfl a b) (fun c133 => ?_) (fun c133 => ?_)
                · rw [if_pos c133] at hf
                  refine es_sub [0, 2] rfl ?_
                  exact t_X12_token_416 N x1 x6 (sJ S 516 s1.toNatClampNeg sy0) r hf
                · rw [if_neg c133] at hf
                  refine es_l (pc' := 371) (ls' := [(1, .int x1), (2, .int x2), (6, .int x6)]) (st' := [.int 40, .int x2]) (fun _ _ k => e_iload_n dX12_token_368 1 rfl (e_bipush (v := 40) dX12_token_369 (by decide) k)) ?_
                  refine es_br (c := x2 = 40) (tgt := 416) (pf := 374) (st' := []) (fun _ _ a b => e_icmp_eq dX12_token_371 rfl a b) (fun c134 => ?_) (fun c134 => ?_)
                  · rw [if_pos c134] at hf
                    refine es_sub [0, 2] rfl ?_
                    exact t_X12_token_416 N x1 x6 (sJ S 516 s1.toNatClampNeg sy0) r hf
                  · rw [if_neg c134] at hf
                    refine es_l (pc' := 377) (ls' := [(1, .int x1), (2, .int x2), (6, .int x6)]) (st' := [.int 41, .int x2]) (fun _ _ k => e_iload_n dX12_token_374 1 rfl (e_bipush (v := 41) dX12_token_375 (by decide) k)) ?_
                    refine es_br (c := x2 = 41) (tgt := 416) (pf := 380) (st' := []) (fun _ _ a b => e_icmp_eq dX12_token_377 rfl a b) (fun c135 => ?_) (fun c135 => ?_)
                    · rw [if_pos c135] at hf
                      refine es_sub [0, 2] rfl ?_
                      exact t_X12_token_416 N x1 x6 (sJ S 516 s1.toNatClampNeg sy0) r hf
                    · rw [if_neg c135] at hf
                      refine es_l (pc' := 383) (ls' := [(1, .int x1), (2, .int x2), (6, .int x6)]) (st' := [.int 123, .int x2]) (fun _ _ k => e_iload_n dX12_token_380 1 rfl (e_bipush (v := 123) dX12_token_381 (by decide) k)) ?_
                      refine es_br (c := x2 = 123) (tgt := 416) (pf := 386) (st' := []) (fun _ _ a b => e_icmp_eq dX12_token_383 rfl a b) (fun c136 => ?_) (fun c136 => ?_)
                      · rw [if_pos c136] at hf
                        refine es_sub [0, 2] rfl ?_
                        exact t_X12_token_416 N x1 x6 (sJ S 516 s1.toNatClampNeg sy0) r hf
                      · rw [if_neg c136] at hf
                        refine es_l (pc' := 389) (ls' := [(1, .int x1), (2, .int x2), (6, .int x6)]) (st' := [.int 125, .int x2]) (fun _ _ k => e_iload_n dX12_token_386 1 rfl (e_bipush (v := 125) dX12_token_387 (by decide) k)) ?_
                        refine es_br (c := x2 = 125) (tgt := 416) (pf := 392) (st' := []) (fun _ _ a b => e_icmp_eq dX12_token_389 rfl a b) (fun c137 => ?_) (fun c137 => ?_)
                        · rw [if_pos c137] at hf
                          refine es_sub [0, 2] rfl ?_
                          exact t_X12_token_416 N x1 x6 (sJ S 516 s1.toNatClampNeg sy0) r hf
                        · rw [if_neg c137] at hf
                          refine es_l (pc' := 395) (ls' := [(1, .int x1), (2, .int x2), (6, .int x6)]) (st' := [.int 44, .int x2]) (fun _ _ k => e_iload_n dX12_token_392 1 rfl (e_bipush (v := 44) dX12_token_393 (by decide) k)) ?_
                          refine es_br (c := x2 = 44) (tgt := 416) (pf := 398) (st' := []) (fun _ _ a b => e_icmp_eq dX12_token_395 rfl a b) (fun c138 => ?_) (fun c138 => ?_)
                          · rw [if_pos c138] at hf
                            refine es_sub [0, 2] rfl ?_
                            exact t_X12_token_416 N x1 x6 (sJ S 516 s1.toNatClampNeg sy0) r hf
                          · rw [if_neg c138] at hf
                            refine es_l (pc' := 401) (ls' := [(1, .int x1), (2, .int x2), (6, .int x6)]) (st' := [.int 59, .int x2]) (fun _ _ k => e_iload_n dX12_token_398 1 rfl (e_bipush (v := 59) dX12_token_399 (by decide) k)) ?_
                            refine es_br (c := x2 = 59) (tgt := 416) (pf := 404) (st' := []) (fun _ _ a b => e_icmp_eq dX12_token_401 rfl a b) (fun c139 => ?_) (fun c139 => ?_)
                            · rw [if_pos c139] at hf
                              refine es_sub [0, 2] rfl ?_
                              exact t_X12_token_416 N x1 x6 (sJ S 516 s1.toNatClampNeg sy0) r hf
                            · rw [if_neg c139] at hf
                              refine es_l (pc' := 407) (ls' := [(1, .int x1), (2, .int x2), (6, .int x6)]) (st' := [.int 58, .int x2]) (fun _ _ k => e_iload_n dX12_token_404 1 rfl (e_bipush (v := 58) dX12_token_405 (by decide) k)) ?_
                              refine es_br (c := x2 = 58) (tgt := 416) (pf := 410) (st' := []) (fun _ _ a b => e_icmp_eq dX12_token_407 rfl a b) (fun c140 => ?_) (fun c140 => ?_)
                              · rw [if_pos c140] at hf
                                refine es_sub [0, 2] rfl ?_
                                exact t_X12_token_416 N x1 x6 (sJ S 516 s1.toNatClampNeg sy0) r hf
                              · rw [if_neg c140] at hf
                                refine es_l (pc' := 413) (ls' := [(1, .int x1), (2, .int x2), (6, .int x6)]) (st' := [.int 46, .int x2]) (fun _ _ k => e_iload_n dX12_token_410 1 rfl (e_bipush (v := 46) dX12_token_411 (by decide) k)) ?_
                                refine es_br (c := x2 = 46) (tgt := 416) (pf := 420) (st' := []) (fun _ _ a b => e_icmp_ne dX12_token_413 rfl b a) (fun c141 => ?_) (fun c141 => ?_)
                                · rw [if_pos c141] at hf
                                  refine es_sub [0, 2] rfl ?_
                                  exact t_X12_token_416 N x1 x6 (sJ S 516 s1.toNatClampNeg sy0) r hf
                                · rw [if_neg c141] at hf
                                  refine es_l (pc' := 421) (ls' := [(1, .int x1), (2, .int x2), (6, .int x6)]) (st' := [.int 0]) (fun _ _ k => e_iconst (v := 0) dX12_token_420 (by decide) k) ?_
                                  refine es_sub [0, 2] rfl ?_
                                  exact t_X12_token_421 N x1 x6 0 (sJ S 516 s1.toNatClampNeg sy0) r hf
def f_X12_token_293 (N : Nat)  (x1 : Int32) (x2 : Int32) (s0 : Int32) (S : xS) : Option xr :=
  if s0 = 0 then
    f_X12_token_319 N x1 x2 s0 ((x2 : Int32).toInt64) (S.1 503 18) S
  else
    f_X12_token_319 N x1 x2 s0 ((256 + x2 : Int32).toInt64) (S.1 503 18) S
set_option maxRecDepth 100000 in
set_option maxHeartbeats 4000000 in
theorem t_X12_token_293 {l : Launch} {w : xW} {g : Nat → xE} (N : Nat)   (x1 : Int32) (x2 : Int32) (s0 : Int32) (S : xS) (r : xr) (hf : f_X12_token_293 N  x1 x2 s0 S = some r) : ES l w g M_X12_token 293 [(0, .ref (w.2.1 + 503)), (1, .int x1), (2, .int x2)] [.int s0] S r := by
  unfold f_X12_token_293 at hf
  refine es_l (pc' := 296) (ls' := [(6, .int s0), (0, .ref (w.2.1 + 503)), (1, .int x1), (2, .int x2)]) (st' := [.ref (w.2.1 + 503)]) (fun _ _ k => e_istore (ls' := [(6, .int s0), (0, .ref (w.2.1 + 503)), (1, .int x1), (2, .int x2)]) dX12_token_293 (by decide) rfl (e_aload_n dX12_token_295 1 rfl k)) ?_
  refine es_get (v := .ref (w.2.1 + 516)) xc_12 dX12_token_296 fl_X12_63 (by decide) (by decide) (cel_503 _ _ _) rfl ?_
  refine es_l (pc' := 300) (ls' := [(6, .int s0), (0, .ref (w.2.1 + 503)), (1, .int x1), (2, .int x2)]) (st' := [.ref (w.2.1 + 503), .ref (w.2.1 + 516)]) (fun _ _ k => e_aload_n dX12_token_299 1 rfl k) ?_
  refine es_get (v := .int (S.1 503 18)) xc_12 dX12_token_300 fl_X12_66 (by decide) (by decide) (cel_503 _ _ _) rfl ?_
  refine es_l (pc' := 305) (ls' := [(6, .int s0), (0, .ref (w.2.1 + 503)), (1, .int x1), (2, .int x2)]) (st' := [.int s0, .int (S.1 503 18), .ref (w.2.1 + 516)]) (fun _ _ k => e_iload dX12_token_303 0 rfl k) ?_
  refine es_br (c := s0 = 0) (tgt := 317) (pf := 308) (st' := [.int (S.1 503 18), .ref (w.2.1 + 516)]) (fun _ _ a b => e_if_eq dX12_token_305 rfl a b) (fun c142 => ?_) (fun c142 => ?_)
  · rw [if_pos c142] at hf
    refine es_l (pc' := 319) (ls' := [(6, .int s0), (0, .ref (w.2.1 + 503)), (1, .int x1), (2, .int x2)]) (st' := [.long ((x2 : Int32).toInt64), .int (S.1 503 18), .ref (w.2.1 + 516)]) (fun _ _ k => e_iload_n dX12_token_317 3 rfl (e_i2l (v := (x2 : Int32).toInt64) dX12_token_318 rfl k)) ?_
    refine es_sub [2, 3, 0] rfl ?_
    exact t_X12_token_319 N x1 x2 s0 ((x2 : Int32).toInt64) (S.1 503 18) S r hf
  · rw [if_neg c142] at hf
    refine es_l (pc' := 319) (ls' := [(6, .int s0), (0, .ref (w.2.1 + 503)), (1, .int x1), (2, .int x2)]) (st' := [.long ((256 + x2 : Int32).toInt64), .int (S.1 503 18), .ref (w.2.1 + 516)]) (fun _ _ k => e_sipush (v := 256) dX12_token_308 (by decide) (e_iload_n dX12_token_311 3 rfl (e_iadd dX12_token_312 (e_i2l (v := (256 + x2 : Int32).toInt64) dX12_token_313 rfl (e_goto (tgt := 319) dX12_token_314 rfl k))))) ?_
    refine es_sub [2, 3, 0] rfl ?_
    exact t_X12_token_319 N x1 x2 s0 ((256 + x2 : Int32).toInt64) (S.1 503 18) S r hf
def f_X12_token_292 (N : Nat)  (x1 : Int32) (x2 : Int32) (S : xS) : Option xr :=
  f_X12_token_293 N x1 x2 0 S
set_option maxRecDepth 100000 in
set_option maxHeartbeats 4000000 in
theorem t_X12_token_292 {l : Launch} {w : xW} {g : Nat → xE} (N : Nat)   (x1 : Int32) (x2 : Int32) (S : xS) (r : xr) (hf : f_X12_token_292 N  x1 x2 S = some r) : ES l w g M_X12_token 292 [(0, .ref (w.2.1 + 503)), (1, .int x1), (2, .int x2)] [] S r := by
  unfold f_X12_token_292 at hf
  refine es_l (pc' := 293) (ls' := [(0, .ref (w.2.1 + 503)), (1, .int x1), (2, .int x2)]) (st' := [.int 0]) (fun _ _ k => e_iconst (v := 0) dX12_token_292 (by decide) k) ?_
  exact t_X12_token_293 N x1 x2 0 S r hf
def f_X12_token_288 (N : Nat)  (x1 : Int32) (x2 : Int32) (S : xS) : Option xr :=
  f_X12_token_293 N x1 x2 1 S
set_option maxRecDepth 100000 in
set_option maxHeartbeats 4000000 in
theorem t_X12_token_288 {l : Launch} {w : xW} {g : Nat → xE} (N : Nat)   (x1 : Int32) (x2 : Int32) (S : xS) (r : xr) (hf : f_X12_token_288 N  x1 x2 S = some r) : ES l w g M_X12_token 288 [(0, .ref (w.2.1 + 503)), (1, .int x1), (2, .int x2)] [] S r := by
  unfold f_X12_token_288 at hf
  refine es_l (pc' := 293) (ls' := [(0, .ref (w.2.1 + 503)), (1, .int x1), (2, .int x2)]) (st' := [.int 1]) (fun _ _ k => e_iconst (v := 1) dX12_token_288 (by decide) (e_goto (tgt := 293) dX12_token_289 rfl k)) ?_
  exact t_X12_token_293 N x1 x2 1 S r hf
def f_X12_token_247 (N : Nat)  (s0 : Int32) (S : xS) : Option xr :=
  some (.inl (some (.inl s0)), S)
set_option maxRecDepth 100000 in
set_option maxHeartbeats 4000000 in
theorem t_X12_token_247 {l : Launch} {w : xW} {g : Nat → xE} (N : Nat)   (s0 : Int32) (S : xS) (r : xr) (hf : f_X12_token_247 N  s0 S = some r) : ES l w g M_X12_token 247 [] [.int s0] S r := by
  unfold f_X12_token_247 at hf
  exact es_ireturn (ty := .int) dX12_token_247 rfl rfl hf
def f_X12_token_204 (N : Nat) (k162 : Int32 → Int64 → xS → Option xr) (x3 : Int32) (sy0 : Int64) (S : xS) : Option xr :=
  k162 (x3 + 1) sy0 S
set_option maxRecDepth 100000 in
set_option maxHeartbeats 4000000 in
theorem t_X12_token_204 {l : Launch} {w : xW} {g : Nat → xE} (N : Nat) (k162 : Int32 → Int64 → xS → Option xr) (hk162 : ∀ (x3 : Int32) (y4 : Int64) (S : xS) (r : xr), k162 x3 y4 S = some r → ES l w g M_X12_token 162 [(0, .ref (w.2.1 + 503)), (3, .int x3), (4, .long y4)] [] S r) (x3 : Int32) (sy0 : Int64) (S : xS) (r : xr) (hf : f_X12_token_204 N k162 x3 sy0 S = some r) : ES l w g M_X12_token 204 [(0, .ref (w.2.1 + 503)), (3, .int x3)] [.long sy0] S r := by
  unfold f_X12_token_204 at hf
  refine es_l (pc' := 162) (ls' := [(3, .int (x3 + 1)), (4, .long sy0), (0, .ref (w.2.1 + 503))]) (st' := []) (fun _ _ k => e_lstore (ls' := [(4, .long sy0), (0, .ref (w.2.1 + 503)), (3, .int x3)]) dX12_token_204 (by decide) rfl (e_iinc (v := x3 + 1) (ls' := [(3, .int (x3 + 1)), (4, .long sy0), (0, .ref (w.2.1 + 503))]) dX12_token_206 2 rfl rfl (by decide) rfl (e_goto (tgt := 162) dX12_token_209 rfl k))) ?_
  refine es_sub [2, 0, 1] rfl ?_
  exact hk162 (x3 + 1) sy0 S r hf
def f_X12_token_162 (N : Nat)  : Nat → Int32 → Int64 → xS → Option xr
  | 0, _, _, _ => none
  | n + 1, x3, y4, S =>
  xcI (f_X12_byteAt N x3 S) (fun v144 S143 =>
  xcI (f_X12_digit N v144 S143) (fun v146 S145 =>
  if v146 = 0 then
    if xin (S145.1 503 18) 152 then
    if (lg_cmp y4 2147483647) ≤ 0 then
      f_X12_token_247 N x3 (sJ (sI S145 514 ((S145.1 503 18).toNatClampNeg) 2) 516 ((S145.1 503 18).toNatClampNeg) y4)
    else
      f_X12_token_247 N ((-1)) (sJ (sI S145 514 ((S145.1 503 18).toNatClampNeg) 2) 516 ((S145.1 503 18).toNatClampNeg) y4)
    else none
  else
    if (lg_cmp y4 2147483647) ≤ 0 then
      xcI (f_X12_byteAt N x3 S145) (fun v152 S151 =>
      f_X12_token_204 N (f_X12_token_162 N n) x3 (((10 * y4) + ((v152 : Int32).toInt64)) - 48) S151
      )
    else
      f_X12_token_204 N (f_X12_token_162 N n) x3 y4 S145
  )
  )
set_option maxRecDepth 100000 in
set_option maxHeartbeats 4000000 in
theorem t_X12_token_162 {l : Launch} {w : xW} {g : Nat → xE} (N : Nat)   : ∀ (n : Nat) (x3 : Int32) (y4 : Int64) (S : xS) (r : xr), f_X12_token_162 N  n x3 y4 S = some r → ES l w g M_X12_token 162 [(0, .ref (w.2.1 + 503)), (3, .int x3), (4, .long y4)] [] S r := by
  intro n
  induction n with
  | zero => intro x3 y4 S r hf; cases hf
  | succ n ih =>
    intro x3 y4 S r hf
    rw [f_X12_token_162.eq_2] at hf
    refine es_l (pc' := 164) (ls' := [(0, .ref (w.2.1 + 503)), (3, .int x3), (4, .long y4)]) (st' := [.int x3, .ref (w.2.1 + 503)]) (fun _ _ k => e_aload_n dX12_token_162 0 rfl (e_iload_n dX12_token_163 1 rfl k)) ?_
    refine es_callVI (as := [.int x3]) (rest := []) hf xc_12 dX12_token_164 cs_X12_token_X12_byteAt ml_X12_212 im_X12_byteAt se_X12_byteAt rfl rfl (Nat.le_of_ble_eq_true rfl) (Nat.le_of_ble_eq_true rfl) (by decide) rfl (cel_503 _ _ _) (fun _ e => t_X12_byteAt N x3 S _ e) (by decide) (fun v144 S143 hf => ?_)
    refine es_callSI (as := [.int v144]) (rest := []) hf dX12_token_167 cs_X12_token_X12_digit ml_X12_220 st_X12_digit rfl rfl (Nat.le_of_ble_eq_true rfl) (Nat.le_of_ble_eq_true rfl) (fun _ e => t_X12_digit N v144 S143 _ e) (by decide) (fun v146 S145 hf => ?_)
    refine es_br (c := v146 = 0) (tgt := 212) (pf := 173) (st' := []) (fun _ _ a b => e_if_eq dX12_token_170 rfl a b) (fun c147 => ?_) (fun c147 => ?_)
    · rw [if_pos c147] at hf
      refine es_l (pc' := 213) (ls' := [(0, .ref (w.2.1 + 503)), (3, .int x3), (4, .long y4)]) (st' := [.ref (w.2.1 + 503)]) (fun _ _ k => e_aload_n dX12_token_212 0 rfl k) ?_
      refine es_get (v := .ref (w.2.1 + 514)) xc_12 dX12_token_213 fl_X12_57 (by decide) (by decide) (cel_503 _ _ _) rfl ?_
      refine es_l (pc' := 217) (ls' := [(0, .ref (w.2.1 + 503)), (3, .int x3), (4, .long y4)]) (st' := [.ref (w.2.1 + 503), .ref (w.2.1 + 514)]) (fun _ _ k => e_aload_n dX12_token_216 0 rfl k) ?_
      refine es_get (v := .int (S145.1 503 18)) xc_12 dX12_token_217 fl_X12_66 (by decide) (by decide) (cel_503 _ _ _) rfl ?_
      refine es_l (pc' := 221) (ls' := [(0, .ref (w.2.1 + 503)), (3, .int x3), (4, .long y4)]) (st' := [.int 2, .int (S145.1 503 18), .ref (w.2.1 + 514)]) (fun _ _ k => e_iconst (v := 2) dX12_token_220 (by decide) k) ?_
      obtain ⟨g148, hf⟩ := xg hf
      refine es_iast dX12_token_221 (by decide) (cel_514 _) g148 ?_
      refine es_l (pc' := 223) (ls' := [(0, .ref (w.2.1 + 503)), (3, .int x3), (4, .long y4)]) (st' := [.ref (w.2.1 + 503)]) (fun _ _ k => e_aload_n dX12_token_222 0 rfl k) ?_
      refine es_get (v := .ref (w.2.1 + 516)) xc_12 dX12_token_223 fl_X12_63 (by decide) (by decide) (cel_503 _ _ _) rfl ?_
      refine es_l (pc' := 227) (ls' := [(0, .ref (w.2.1 + 503)), (3, .int x3), (4, .long y4)]) (st' := [.ref (w.2.1 + 503), .ref (w.2.1 + 516)]) (fun _ _ k => e_aload_n dX12_token_226 0 rfl k) ?_
      refine es_get (v := .int (S145.1 503 18)) xc_12 dX12_token_227 fl_X12_66 (by decide) (by decide) (cel_503 _ _ _) rfl ?_
      refine es_l (pc' := 232) (ls' := [(0, .ref (w.2.1 + 503)), (3, .int x3), (4, .long y4)]) (st' := [.long y4, .int (S145.1 503 18), .ref (w.2.1 + 516)]) (fun _ _ k => e_lload dX12_token_230 2 rfl k) ?_
      refine es_last dX12_token_232 (by decide) (cel_516 _) g148 ?_
      refine es_l (pc' := 239) (ls' := [(0, .ref (w.2.1 + 503)), (3, .int x3), (4, .long y4)]) (st' := [.int (lg_cmp y4 2147483647)]) (fun _ _ k => e_lload dX12_token_233 2 rfl (e_ldc2 dX12_token_235 kj_X12_223 (e_lcmp dX12_token_238 k))) ?_
      refine es_br (c := (lg_cmp y4 2147483647) ≤ 0) (tgt := 246) (pf := 242) (st' := []) (fun _ _ a b => e_if_le dX12_token_239 rfl a b) (fun c149 => ?_) (fun c149 => ?_)
      · rw [if_pos c149] at hf
        refine es_l (pc' := 247) (ls' := [(0, .ref (w.2.1 + 503)), (3, .int x3), (4, .long y4)]) (st' := [.int x3]) (fun _ _ k => e_iload_n dX12_token_246 1 rfl k) ?_
        refine es_sub [] rfl ?_
        exact t_X12_token_247 N x3 (sJ (sI S145 514 ((S145.1 503 18).toNatClampNeg) 2) 516 ((S145.1 503 18).toNatClampNeg) y4) r hf
      · rw [if_neg c149] at hf
        refine es_l (pc' := 247) (ls' := [(0, .ref (w.2.1 + 503)), (3, .int x3), (4, .long y4)]) (st' := [.int ((-1))]) (fun _ _ k => e_iconst (v := (-1)) dX12_token_242 (by decide) (e_goto (tgt := 247) dX12_token_243 rfl k)) ?_
        refine es_sub [] rfl ?_
        exact t_X12_token_247 N ((-1)) (sJ (sI S145 514 ((S145.1 503 18).toNatClampNeg) 2) 516 ((S145.1 503 18).toNatClampNeg) y4) r hf
    · rw [if_neg c147] at hf
      refine es_l (pc' := 179) (ls' := [(0, .ref (w.2.1 + 503)), (3, .int x3), (4, .long y4)]) (st' := [.int (lg_cmp y4 2147483647)]) (fun _ _ k => e_lload dX12_token_173 2 rfl (e_ldc2 dX12_token_175 kj_X12_223 (e_lcmp dX12_token_178 k))) ?_
      refine es_br (c := (lg_cmp y4 2147483647) ≤ 0) (tgt := 187) (pf := 182) (st' := []) (fun _ _ a b => e_if_le dX12_token_179 rfl a b) (fun c150 => ?_) (fun c150 => ?_)
      · rw [if_pos c150] at hf
        refine es_l (pc' := 195) (ls' := [(0, .ref (w.2.1 + 503)), (3, .int x3), (4, .long y4)]) (st' := [.int x3, .ref (w.2.1 + 503), .long (10 * y4)]) (fun _ _ k => e_ldc2 dX12_token_187 kj_X12_225 (e_lload dX12_token_190 2 rfl (e_lmul dX12_token_192 (e_aload_n dX12_token_193 0 rfl (e_iload_n dX12_token_194 1 rfl k))))) ?_
        refine es_callVI (as := [.int x3]) (rest := [.long (10 * y4)]) hf xc_12 dX12_token_195 cs_X12_token_X12_byteAt ml_X12_212 im_X12_byteAt se_X12_byteAt rfl rfl (Nat.le_of_ble_eq_true rfl) (Nat.le_of_ble_eq_true rfl) (by decide) rfl (cel_503 _ _ _) (fun _ e => t_X12_byteAt N x3 S145 _ e) (by decide) (fun v152 S151 hf => ?_)
        refine es_l (pc' := 204) (ls' := [(0, .ref (w.2.1 + 503)), (3, .int x3), (4, .long y4)]) (st' := [.long (((10 * y4) + ((v152 : Int32).toInt64)) - 48)]) (fun _ _ k => e_i2l (v := (v152 : Int32).toInt64) dX12_token_198 rfl (e_ladd dX12_token_199 (e_ldc2 dX12_token_200 kj_X12_227 (e_lsub dX12_token_203 k)))) ?_
        refine es_sub [0, 1] rfl ?_
        exact t_X12_token_204 N (f_X12_token_162 N n) ih x3 (((10 * y4) + ((v152 : Int32).toInt64)) - 48) S151 r hf
      · rw [if_neg c150] at hf
        refine es_l (pc' := 204) (ls' := [(0, .ref (w.2.1 + 503)), (3, .int x3), (4, .long y4)]) (st' := [.long y4]) (fun _ _ k => e_lload dX12_token_182 2 rfl (e_goto (tgt := 204) dX12_token_184 rfl k)) ?_
        refine es_sub [0, 1] rfl ?_
        exact t_X12_token_204 N (f_X12_token_162 N n) ih x3 y4 S145 r hf
def f_X12_token_154 (N : Nat)  (s0 : Int32) (S : xS) : Option xr :=
  some (.inl (some (.inl s0)), S)
set_option maxRecDepth 100000 in
set_option maxHeartbeats 4000000 in
theorem t_X12_token_154 {l : Launch} {w : xW} {g : Nat → xE} (N : Nat)   (s0 : Int32) (S : xS) (r : xr) (hf : f_X12_token_154 N  s0 S = some r) : ES l w g M_X12_token 154 [] [.int s0] S r := by
  unfold f_X12_token_154 at hf
  exact es_ireturn (ty := .int) dX12_token_154 rfl rfl hf
def f_X12_token_124 (N : Nat) (k85 : Int32 → Int32 → Int64 → Int32 → xS → Option xr) (x1 : Int32) (x3 : Int32) (y4 : Int64) (x6 : Int32) (S : xS) : Option xr :=
  k85 x1 x3 y4 (x6 + 1) S
set_option maxRecDepth 100000 in
set_option maxHeartbeats 4000000 in
theorem t_X12_token_124 {l : Launch} {w : xW} {g : Nat → xE} (N : Nat) (k85 : Int32 → Int32 → Int64 → Int32 → xS → Option xr) (hk85 : ∀ (x1 : Int32) (x3 : Int32) (y4 : Int64) (x6 : Int32) (S : xS) (r : xr), k85 x1 x3 y4 x6 S = some r → ES l w g M_X12_token 85 [(0, .ref (w.2.1 + 503)), (1, .int x1), (3, .int x3), (4, .long y4), (6, .int x6)] [] S r) (x1 : Int32) (x3 : Int32) (y4 : Int64) (x6 : Int32) (S : xS) (r : xr) (hf : f_X12_token_124 N k85 x1 x3 y4 x6 S = some r) : ES l w g M_X12_token 124 [(0, .ref (w.2.1 + 503)), (1, .int x1), (3, .int x3), (4, .long y4), (6, .int x6)] [] S r := by
  unfold f_X12_token_124 at hf
  refine es_l (pc' := 85) (ls' := [(6, .int (x6 + 1)), (0, .ref (w.2.1 + 503)), (1, .int x1), (3, .int x3), (4, .long y4)]) (st' := []) (fun _ _ k => e_iinc (v := x6 + 1) (ls' := [(6, .int (x6 + 1)), (0, .ref (w.2.1 + 503)), (1, .int x1), (3, .int x3), (4, .long y4)]) dX12_token_124 4 rfl rfl (by decide) rfl (e_goto (tgt := 85) dX12_token_127 rfl k)) ?_
  refine es_sub [1, 2, 3, 4, 0] rfl ?_
  exact hk85 x1 x3 y4 (x6 + 1) S r hf
def f_X12_token_85 (N : Nat)  : Nat → Int32 → Int32 → Int64 → Int32 → xS → Option xr
  | 0, _, _, _, _, _ => none
  | n + 1, x1, x3, y4, x6, S =>
  if 20 ≤ x6 then
    if xin (S.1 503 18) 152 then
    if (x3 - x1) ≤ 8 then
      f_X12_token_154 N x3 (sJ S 516 ((S.1 503 18).toNatClampNeg) y4)
    else
      f_X12_token_154 N ((-1)) (sJ S 516 ((S.1 503 18).toNatClampNeg) y4)
    else none
  else
    if xin x6 20 then
    if (lg_cmp (S.2.1 517 x6.toNatClampNeg) y4) = 0 then
      if xin (S.1 503 18) 152 then
      f_X12_token_124 N (f_X12_token_85 N n) x1 x3 ((x6 : Int32).toInt64) 20 (sI S 514 ((S.1 503 18).toNatClampNeg) 3)
      else none
    else
      f_X12_token_124 N (f_X12_token_85 N n) x1 x3 y4 x6 S
    else none
set_option maxRecDepth 100000 in
set_option maxHeartbeats 4000000 in
theorem t_X12_token_85 {l : Launch} {w : xW} {g : Nat → xE} (N : Nat)   : ∀ (n : Nat) (x1 : Int32) (x3 : Int32) (y4 : Int64) (x6 : Int32) (S : xS) (r : xr), f_X12_token_85 N  n x1 x3 y4 x6 S = some r → ES l w g M_X12_token 85 [(0, .ref (w.2.1 + 503)), (1, .int x1), (3, .int x3), (4, .long y4), (6, .int x6)] [] S r := by
  intro n
  induction n with
  | zero => intro x1 x3 y4 x6 S r hf; cases hf
  | succ n ih =>
    intro x1 x3 y4 x6 S r hf
    rw [f_X12_token_85.eq_2] at hf
    refine es_l (pc' := 89) (ls' := [(0, .ref (w.2.1 + 503)), (1, .int x1), (3, .int x3), (4, .long y4), (6, .int x6)]) (st' := [.int 20, .int x6]) (fun _ _ k => e_iload dX12_token_85 4 rfl (e_bipush (v := 20) dX12_token_87 (by decide) k)) ?_
    refine es_br (c := 20 ≤ x6) (tgt := 130) (pf := 92) (st' := []) (fun _ _ a b => e_icmp_ge dX12_token_89 rfl a b) (fun c153 => ?_) (fun c153 => ?_)
    · rw [if_pos c153] at hf
      refine es_l (pc' := 131) (ls' := [(0, .ref (w.2.1 + 503)), (1, .int x1), (3, .int x3), (4, .long y4), (6, .int x6)]) (st' := [.ref (w.2.1 + 503)]) (fun _ _ k => e_aload_n dX12_token_130 0 rfl k) ?_
      refine es_get (v := .ref (w.2.1 + 516)) xc_12 dX12_token_131 fl_X12_63 (by decide) (by decide) (cel_503 _ _ _) rfl ?_
      refine es_l (pc' := 135) (ls' := [(0, .ref (w.2.1 + 503)), (1, .int x1), (3, .int x3), (4, .long y4), (6, .int x6)]) (st' := [.ref (w.2.1 + 503), .ref (w.2.1 + 516)]) (fun _ _ k => e_aload_n dX12_token_134 0 rfl k) ?_
      refine es_get (v := .int (S.1 503 18)) xc_12 dX12_token_135 fl_X12_66 (by decide) (by decide) (cel_503 _ _ _) rfl ?_
      refine es_l (pc' := 140) (ls' := [(0, .ref (w.2.1 + 503)), (1, .int x1), (3, .int x3), (4, .long y4), (6, .int x6)]) (st' := [.long y4, .int (S.1 503 18), .ref (w.2.1 + 516)]) (fun _ _ k => e_lload dX12_token_138 3 rfl k) ?_
      obtain ⟨g154, hf⟩ := xg hf
      refine es_last dX12_token_140 (by decide) (cel_516 _) g154 ?_
      refine es_l (pc' := 146) (ls' := [(0, .ref (w.2.1 + 503)), (1, .int x1), (3, .int x3), (4, .long y4), (6, .int x6)]) (st' := [.int 8, .int (x3 - x1)]) (fun _ _ k => e_iload_n dX12_token_141 2 rfl (e_iload_n dX12_token_142 1 rfl (e_isub dX12_token_143 (e_bipush (v := 8) dX12_token_144 (by decide) k)))) ?_
      refine es_br (c := (x3 - x1) ≤ 8) (tgt := 153) (pf := 149) (st' := []) (fun _ _ a b => e_icmp_le dX12_token_146 rfl a b) (fun c155 => ?_) (fun c155 => ?_)
      · rw [if_pos c155] at hf
        refine es_l (pc' := 154) (ls' := [(0, .ref (w.2.1 + 503)), (1, .int x1), (3, .int x3), (4, .long y4), (6, .int x6)]) (st' := [.int x3]) (fun _ _ k => e_iload_n dX12_token_153 2 rfl k) ?_
        refine es_sub [] rfl ?_
        exact t_X12_token_154 N x3 (sJ S 516 ((S.1 503 18).toNatClampNeg) y4) r hf
      · rw [if_neg c155] at hf
        refine es_l (pc' := 154) (ls' := [(0, .ref (w.2.1 + 503)), (1, .int x1), (3, .int x3), (4, .long y4), (6, .int x6)]) (st' := [.int ((-1))]) (fun _ _ k => e_iconst (v := (-1)) dX12_token_149 (by decide) (e_goto (tgt := 154) dX12_token_150 rfl k)) ?_
        refine es_sub [] rfl ?_
        exact t_X12_token_154 N ((-1)) (sJ S 516 ((S.1 503 18).toNatClampNeg) y4) r hf
    · rw [if_neg c153] at hf
      refine es_l (pc' := 93) (ls' := [(0, .ref (w.2.1 + 503)), (1, .int x1), (3, .int x3), (4, .long y4), (6, .int x6)]) (st' := [.ref (w.2.1 + 503)]) (fun _ _ k => e_aload_n dX12_token_92 0 rfl k) ?_
      refine es_get (v := .ref (w.2.1 + 517)) xc_12 dX12_token_93 fl_X12_69 (by decide) (by decide) (cel_503 _ _ _) rfl ?_
      refine es_l (pc' := 98) (ls' := [(0, .ref (w.2.1 + 503)), (1, .int x1), (3, .int x3), (4, .long y4), (6, .int x6)]) (st' := [.int x6, .ref (w.2.1 + 517)]) (fun _ _ k => e_iload dX12_token_96 4 rfl k) ?_
      obtain ⟨g156, hf⟩ := xg hf
      refine es_lald (v := .long (S.2.1 517 x6.toNatClampNeg)) dX12_token_98 (by decide) (cel_517 _ _ _) g156 rfl ?_
      refine es_l (pc' := 102) (ls' := [(0, .ref (w.2.1 + 503)), (1, .int x1), (3, .int x3), (4, .long y4), (6, .int x6)]) (st' := [.int (lg_cmp (S.2.1 517 x6.toNatClampNeg) y4)]) (fun _ _ k => e_lload dX12_token_99 3 rfl (e_lcmp dX12_token_101 k)) ?_
      refine es_br (c := (lg_cmp (S.2.1 517 x6.toNatClampNeg) y4) = 0) (tgt := 105) (pf := 124) (st' := []) (fun _ _ a b => e_if_ne dX12_token_102 rfl b a) (fun c157 => ?_) (fun c157 => ?_)
      · rw [if_pos c157] at hf
        refine es_l (pc' := 106) (ls' := [(0, .ref (w.2.1 + 503)), (1, .int x1), (3, .int x3), (4, .long y4), (6, .int x6)]) (st' := [.ref (w.2.1 + 503)]) (fun _ _ k => e_aload_n dX12_token_105 0 rfl k) ?_
        refine es_get (v := .ref (w.2.1 + 514)) xc_12 dX12_token_106 fl_X12_57 (by decide) (by decide) (cel_503 _ _ _) rfl ?_
        refine es_l (pc' := 110) (ls' := [(0, .ref (w.2.1 + 503)), (1, .int x1), (3, .int x3), (4, .long y4), (6, .int x6)]) (st' := [.ref (w.2.1 + 503), .ref (w.2.1 + 514)]) (fun _ _ k => e_aload_n dX12_token_109 0 rfl k) ?_
        refine es_get (v := .int (S.1 503 18)) xc_12 dX12_token_110 fl_X12_66 (by decide) (by decide) (cel_503 _ _ _) rfl ?_
        refine es_l (pc' := 114) (ls' := [(0, .ref (w.2.1 + 503)), (1, .int x1), (3, .int x3), (4, .long y4), (6, .int x6)]) (st' := [.int 3, .int (S.1 503 18), .ref (w.2.1 + 514)]) (fun _ _ k => e_iconst (v := 3) dX12_token_113 (by decide) k) ?_
        obtain ⟨g158, hf⟩ := xg hf
        refine es_iast dX12_token_114 (by decide) (cel_514 _) g158 ?_
        refine es_l (pc' := 124) (ls' := [(6, .int 20), (4, .long ((x6 : Int32).toInt64)), (0, .ref (w.2.1 + 503)), (1, .int x1), (3, .int x3)]) (st' := []) (fun _ _ k => e_iload dX12_token_115 4 rfl (e_i2l (v := (x6 : Int32).toInt64) dX12_token_117 rfl (e_lstore (ls' := [(4, .long ((x6 : Int32).toInt64)), (0, .ref (w.2.1 + 503)), (1, .int x1), (3, .int x3), (6, .int x6)]) dX12_token_118 (by decide) rfl (e_bipush (v := 20) dX12_token_120 (by decide) (e_istore (ls' := [(6, .int 20), (4, .long ((x6 : Int32).toInt64)), (0, .ref (w.2.1 + 503)), (1, .int x1), (3, .int x3)]) dX12_token_122 (by decide) rfl k))))) ?_
        refine es_sub [2, 3, 4, 1, 0] rfl ?_
        exact t_X12_token_124 N (f_X12_token_85 N n) ih x1 x3 ((x6 : Int32).toInt64) 20 (sI S 514 ((S.1 503 18).toNatClampNeg) 3) r hf
      · rw [if_neg c157] at hf
        exact t_X12_token_124 N (f_X12_token_85 N n) ih x1 x3 y4 x6 S r hf
def f_X12_token_66 (N : Nat) (k28 : Int32 → Int32 → Int64 → xS → Option xr) (x1 : Int32) (x3 : Int32) (y4 : Int64) (S : xS) : Option xr :=
  k28 x1 (x3 + 1) y4 S
set_option maxRecDepth 100000 in
set_option maxHeartbeats 4000000 in
theorem t_X12_token_66 {l : Launch} {w : xW} {g : Nat → xE} (N : Nat) (k28 : Int32 → Int32 → Int64 → xS → Option xr) (hk28 : ∀ (x1 : Int32) (x3 : Int32) (y4 : Int64) (S : xS) (r : xr), k28 x1 x3 y4 S = some r → ES l w g M_X12_token 28 [(0, .ref (w.2.1 + 503)), (1, .int x1), (3, .int x3), (4, .long y4)] [] S r) (x1 : Int32) (x3 : Int32) (y4 : Int64) (S : xS) (r : xr) (hf : f_X12_token_66 N k28 x1 x3 y4 S = some r) : ES l w g M_X12_token 66 [(0, .ref (w.2.1 + 503)), (1, .int x1), (3, .int x3), (4, .long y4)] [] S r := by
  unfold f_X12_token_66 at hf
  refine es_l (pc' := 28) (ls' := [(3, .int (x3 + 1)), (0, .ref (w.2.1 + 503)), (1, .int x1), (4, .long y4)]) (st' := []) (fun _ _ k => e_iinc (v := x3 + 1) (ls' := [(3, .int (x3 + 1)), (0, .ref (w.2.1 + 503)), (1, .int x1), (4, .long y4)]) dX12_token_66 2 rfl rfl (by decide) rfl (e_goto (tgt := 28) dX12_token_69 rfl k)) ?_
  refine es_sub [1, 2, 0, 3] rfl ?_
  exact hk28 x1 (x3 + 1) y4 S r hf
def f_X12_token_28 (N : Nat)  : Nat → Int32 → Int32 → Int64 → xS → Option xr
  | 0, _, _, _, _ => none
  | n + 1, x1, x3, y4, S =>
  xcI (f_X12_byteAt N x3 S) (fun v160 S159 =>
  xcI (f_X12_letter N v160 S159) (fun v162 S161 =>
  if v162 = 0 then
    if xin (S161.1 503 18) 152 then
    f_X12_token_85 N N x1 x3 y4 0 (sI S161 514 ((S161.1 503 18).toNatClampNeg) 1)
    else none
  else
    if (x1 + 9) ≤ x3 then
      f_X12_token_66 N (f_X12_token_28 N n) x1 x3 y4 S161
    else
      xcI (f_X12_byteAt N x3 S161) (fun v167 S166 =>
      f_X12_token_66 N (f_X12_token_28 N n) x1 x3 (((y4 * 27) + ((v167 : Int32).toInt64)) - 96) S166
      )
  )
  )
set_option maxRecDepth 100000 in
set_option maxHeartbeats 4000000 in
theorem t_X12_token_28 {l : Launch} {w : xW} {g : Nat → xE} (N : Nat)   : ∀ (n : Nat) (x1 : Int32) (x3 : Int32) (y4 : Int64) (S : xS) (r : xr), f_X12_token_28 N  n x1 x3 y4 S = some r → ES l w g M_X12_token 28 [(0, .ref (w.2.1 + 503)), (1, .int x1), (3, .int x3), (4, .long y4)] [] S r := by
  intro n
  induction n with
  | zero => intro x1 x3 y4 S r hf; cases hf
  | succ n ih =>
    intro x1 x3 y4 S r hf
    rw [f_X12_token_28.eq_2] at hf
    refine es_l (pc' := 30) (ls' := [(0, .ref (w.2.1 + 503)), (1, .int x1), (3, .int x3), (4, .long y4)]) (st' := [.int x3, .ref (w.2.1 + 503)]) (fun _ _ k => e_aload_n dX12_token_28 0 rfl (e_iload_n dX12_token_29 2 rfl k)) ?_
    refine es_callVI (as := [.int x3]) (rest := []) hf xc_12 dX12_token_30 cs_X12_token_X12_byteAt ml_X12_212 im_X12_byteAt se_X12_byteAt rfl rfl (Nat.le_of_ble_eq_true rfl) (Nat.le_of_ble_eq_true rfl) (by decide) rfl (cel_503 _ _ _) (fun _ e => t_X12_byteAt N x3 S _ e) (by decide) (fun v160 S159 hf => ?_)
    refine es_callSI (as := [.int v160]) (rest := []) hf dX12_token_33 cs_X12_token_X12_letter ml_X12_216 st_X12_letter rfl rfl (Nat.le_of_ble_eq_true rfl) (Nat.le_of_ble_eq_true rfl) (fun _ e => t_X12_letter N v160 S159 _ e) (by decide) (fun v162 S161 hf => ?_)
    refine es_br (c := v162 = 0) (tgt := 72) (pf := 39) (st' := []) (fun _ _ a b => e_if_eq dX12_token_36 rfl a b) (fun c163 => ?_) (fun c163 => ?_)
    · rw [if_pos c163] at hf
      refine es_l (pc' := 73) (ls' := [(0, .ref (w.2.1 + 503)), (1, .int x1), (3, .int x3), (4, .long y4)]) (st' := [.ref (w.2.1 + 503)]) (fun _ _ k => e_aload_n dX12_token_72 0 rfl k) ?_
      refine es_get (v := .ref (w.2.1 + 514)) xc_12 dX12_token_73 fl_X12_57 (by decide) (by decide) (cel_503 _ _ _) rfl ?_
      refine es_l (pc' := 77) (ls' := [(0, .ref (w.2.1 + 503)), (1, .int x1), (3, .int x3), (4, .long y4)]) (st' := [.ref (w.2.1 + 503), .ref (w.2.1 + 514)]) (fun _ _ k => e_aload_n dX12_token_76 0 rfl k) ?_
      refine es_get (v := .int (S161.1 503 18)) xc_12 dX12_token_77 fl_X12_66 (by decide) (by decide) (cel_503 _ _ _) rfl ?_
      refine es_l (pc' := 81) (ls' := [(0, .ref (w.2.1 + 503)), (1, .int x1), (3, .int x3), (4, .long y4)]) (st' := [.int 1, .int (S161.1 503 18), .ref (w.2.1 + 514)]) (fun _ _ k => e_iconst (v := 1) dX12_token_80 (by decide) k) ?_
      obtain ⟨g164, hf⟩ := xg hf
      refine es_iast dX12_token_81 (by decide) (cel_514 _) g164 ?_
      refine es_l (pc' := 85) (ls' := [(6, .int 0), (0, .ref (w.2.1 + 503)), (1, .int x1), (3, .int x3), (4, .long y4)]) (st' := []) (fun _ _ k => e_iconst (v := 0) dX12_token_82 (by decide) (e_istore (ls' := [(6, .int 0), (0, .ref (w.2.1 + 503)), (1, .int x1), (3, .int x3), (4, .long y4)]) dX12_token_83 (by decide) rfl k)) ?_
      refine es_sub [1, 2, 3, 4, 0] rfl ?_
      exact t_X12_token_85 N N x1 x3 y4 0 (sI S161 514 ((S161.1 503 18).toNatClampNeg) 1) r hf
    · rw [if_neg c163] at hf
      refine es_l (pc' := 44) (ls' := [(0, .ref (w.2.1 + 503)), (1, .int x1), (3, .int x3), (4, .long y4)]) (st' := [.int (x1 + 9), .int x3]) (fun _ _ k => e_iload_n dX12_token_39 2 rfl (e_iload_n dX12_token_40 1 rfl (e_bipush (v := 9) dX12_token_41 (by decide) (e_iadd dX12_token_43 k)))) ?_
      refine es_br (c := (x1 + 9) ≤ x3) (tgt := 66) (pf := 47) (st' := []) (fun _ _ a b => e_icmp_ge dX12_token_44 rfl a b) (fun c165 => ?_) (fun c165 => ?_)
      · rw [if_pos c165] at hf
        exact t_X12_token_66 N (f_X12_token_28 N n) ih x1 x3 y4 S161 r hf
      · rw [if_neg c165] at hf
        refine es_l (pc' := 55) (ls' := [(0, .ref (w.2.1 + 503)), (1, .int x1), (3, .int x3), (4, .long y4)]) (st' := [.int x3, .ref (w.2.1 + 503), .long (y4 * 27)]) (fun _ _ k => e_lload dX12_token_47 3 rfl (e_ldc2 dX12_token_49 kj_X12_204 (e_lmul dX12_token_52 (e_aload_n dX12_token_53 0 rfl (e_iload_n dX12_token_54 2 rfl k))))) ?_
        refine es_callVI (as := [.int x3]) (rest := [.long (y4 * 27)]) hf xc_12 dX12_token_55 cs_X12_token_X12_byteAt ml_X12_212 im_X12_byteAt se_X12_byteAt rfl rfl (Nat.le_of_ble_eq_true rfl) (Nat.le_of_ble_eq_true rfl) (by decide) rfl (cel_503 _ _ _) (fun _ e => t_X12_byteAt N x3 S161 _ e) (by decide) (fun v167 S166 hf => ?_)
        refine es_l (pc' := 66) (ls' := [(4, .long (((y4 * 27) + ((v167 : Int32).toInt64)) - 96)), (0, .ref (w.2.1 + 503)), (1, .int x1), (3, .int x3)]) (st' := []) (fun _ _ k => e_i2l (v := (v167 : Int32).toInt64) dX12_token_58 rfl (e_ladd dX12_token_59 (e_ldc2 dX12_token_60 kj_X12_206 (e_lsub dX12_token_63 (e_lstore (ls' := [(4, .long (((y4 * 27) + ((v167 : Int32).toInt64)) - 96)), (0, .ref (w.2.1 + 503)), (1, .int x1), (3, .int x3)]) dX12_token_64 (by decide) rfl k))))) ?_
        refine es_sub [1, 2, 3, 0] rfl ?_
        exact t_X12_token_66 N (f_X12_token_28 N n) ih x1 x3 (((y4 * 27) + ((v167 : Int32).toInt64)) - 96) S166 r hf
def f_X12_token (N : Nat) (x1 : Int32) (S : xS) : Option xr :=
  xcI (f_X12_byteAt N x1 S) (fun v169 S168 =>
  if xin (S168.1 503 18) 152 then
  xcI (f_X12_letter N v169 (sI S168 515 ((S168.1 503 18).toNatClampNeg) x1)) (fun v172 S171 =>
  if v172 = 0 then
    xcI (f_X12_digit N v169 S171) (fun v175 S174 =>
    if v175 = 0 then
      if xin (S174.1 503 18) 152 then
      xcI (f_X12_byteAt N (x1 + 1) (sI S174 514 ((S174.1 503 18).toNatClampNeg) 4)) (fun v179 S178 =>
      if v179 = 61 then
        if v169 = 33 then
          f_X12_token_288 N x1 v169 S178
        else
          if v169 = 60 then
            f_X12_token_288 N x1 v169 S178
          else
            if v169 = 62 then
              f_X12_token_288 N x1 v169 S178
            else
              f_X12_token_292 N x1 v169 S178
      else
        f_X12_token_292 N x1 v169 S178
      )
      else none
    else
      f_X12_token_162 N N x1 0 S174
    )
  else
    f_X12_token_28 N N x1 x1 0 S171
  )
  else none
  )
set_option maxRecDepth 100000 in
set_option maxHeartbeats 4000000 in
theorem t_X12_token {l : Launch} {w : xW} {g : Nat → xE} (N : Nat) (x1 : Int32) (S : xS) (r : xr) (hf : f_X12_token N x1 S = some r) : ES l w g M_X12_token 0 (lv_args 0 [.ref (w.2.1 + 503), .int x1]) [] S r := by
  show ES l w g M_X12_token 0 [(0, .ref (w.2.1 + 503)), (1, .int x1)] [] S r
  unfold f_X12_token at hf
  refine es_l (pc' := 2) (ls' := [(0, .ref (w.2.1 + 503)), (1, .int x1)]) (st' := [.int x1, .ref (w.2.1 + 503)]) (fun _ _ k => e_aload_n dX12_token_0 0 rfl (e_iload_n dX12_token_1 1 rfl k)) ?_
  refine es_callVI (as := [.int x1]) (rest := []) hf xc_12 dX12_token_2 cs_X12_token_X12_byteAt ml_X12_212 im_X12_byteAt se_X12_byteAt rfl rfl (Nat.le_of_ble_eq_true rfl) (Nat.le_of_ble_eq_true rfl) (by decide) rfl (cel_503 _ _ _) (fun _ e => t_X12_byteAt N x1 S _ e) (by decide) (fun v169 S168 hf => ?_)
  refine es_l (pc' := 12) (ls' := [(4, .long 0), (3, .int x1), (2, .int v169), (0, .ref (w.2.1 + 503)), (1, .int x1)]) (st' := [.ref (w.2.1 + 503)]) (fun _ _ k => e_istore_n (ls' := [(2, .int v169), (0, .ref (w.2.1 + 503)), (1, .int x1)]) dX12_token_5 (by decide) rfl (e_iload_n dX12_token_6 2 rfl (e_istore_n (ls' := [(3, .int x1), (2, .int v169), (0, .ref (w.2.1 + 503)), (1, .int x1)]) dX12_token_7 (by decide) rfl (e_lconst (v := 0) dX12_token_8 (by decide) (e_lstore (ls' := [(4, .long 0), (3, .int x1), (2, .int v169), (0, .ref (w.2.1 + 503)), (1, .int x1)]) dX12_token_9 (by decide) rfl (e_aload_n dX12_token_11 3 rfl k)))))) ?_
  refine es_get (v := .ref (w.2.1 + 515)) xc_12 dX12_token_12 fl_X12_60 (by decide) (by decide) (cel_503 _ _ _) rfl ?_
  refine es_l (pc' := 16) (ls' := [(4, .long 0), (3, .int x1), (2, .int v169), (0, .ref (w.2.1 + 503)), (1, .int x1)]) (st' := [.ref (w.2.1 + 503), .ref (w.2.1 + 515)]) (fun _ _ k => e_aload_n dX12_token_15 3 rfl k) ?_
  refine es_get (v := .int (S168.1 503 18)) xc_12 dX12_token_16 fl_X12_66 (by decide) (by decide) (cel_503 _ _ _) rfl ?_
  refine es_l (pc' := 20) (ls' := [(4, .long 0), (3, .int x1), (2, .int v169), (0, .ref (w.2.1 + 503)), (1, .int x1)]) (st' := [.int x1, .int (S168.1 503 18), .ref (w.2.1 + 515)]) (fun _ _ k => e_iload_n dX12_token_19 4 rfl k) ?_
  obtain ⟨g170, hf⟩ := xg hf
  refine es_iast dX12_token_20 (by decide) (cel_515 _) g170 ?_
  refine es_l (pc' := 22) (ls' := [(4, .long 0), (3, .int x1), (2, .int v169), (0, .ref (w.2.1 + 503)), (1, .int x1)]) (st' := [.int v169]) (fun _ _ k => e_iload_n dX12_token_21 2 rfl k) ?_
  refine es_callSI (as := [.int v169]) (rest := []) hf dX12_token_22 cs_X12_token_X12_letter ml_X12_216 st_X12_letter rfl rfl (Nat.le_of_ble_eq_true rfl) (Nat.le_of_ble_eq_true rfl) (fun _ e => t_X12_letter N v169 (sI S168 515 ((S168.1 503 18).toNatClampNeg) x1) _ e) (by decide) (fun v172 S171 hf => ?_)
  refine es_br (c := v172 = 0) (tgt := 155) (pf := 28) (st' := []) (fun _ _ a b => e_if_eq dX12_token_25 rfl a b) (fun c173 => ?_) (fun c173 => ?_)
  · rw [if_pos c173] at hf
    refine es_l (pc' := 156) (ls' := [(4, .long 0), (3, .int x1), (2, .int v169), (0, .ref (w.2.1 + 503)), (1, .int x1)]) (st' := [.int v169]) (fun _ _ k => e_iload_n dX12_token_155 2 rfl k) ?_
    refine es_callSI (as := [.int v169]) (rest := []) hf dX12_token_156 cs_X12_token_X12_digit ml_X12_220 st_X12_digit rfl rfl (Nat.le_of_ble_eq_true rfl) (Nat.le_of_ble_eq_true rfl) (fun _ e => t_X12_digit N v169 S171 _ e) (by decide) (fun v175 S174 hf => ?_)
    refine es_br (c := v175 = 0) (tgt := 248) (pf := 162) (st' := []) (fun _ _ a b => e_if_eq dX12_token_159 rfl a b) (fun c176 => ?_) (fun c176 => ?_)
    · rw [if_pos c176] at hf
      refine es_l (pc' := 249) (ls' := [(4, .long 0), (3, .int x1), (2, .int v169), (0, .ref (w.2.1 + 503)), (1, .int x1)]) (st' := [.ref (w.2.1 + 503)]) (fun _ _ k => e_aload_n dX12_token_248 3 rfl k) ?_
      refine es_get (v := .ref (w.2.1 + 514)) xc_12 dX12_token_249 fl_X12_57 (by decide) (by decide) (cel_503 _ _ _) rfl ?_
      refine es_l (pc' := 253) (ls' := [(4, .long 0), (3, .int x1), (2, .int v169), (0, .ref (w.2.1 + 503)), (1, .int x1)]) (st' := [.ref (w.2.1 + 503), .ref (w.2.1 + 514)]) (fun _ _ k => e_aload_n dX12_token_252 3 rfl k) ?_
      refine es_get (v := .int (S174.1 503 18)) xc_12 dX12_token_253 fl_X12_66 (by decide) (by decide) (cel_503 _ _ _) rfl ?_
      refine es_l (pc' := 257) (ls' := [(4, .long 0), (3, .int x1), (2, .int v169), (0, .ref (w.2.1 + 503)), (1, .int x1)]) (st' := [.int 4, .int (S174.1 503 18), .ref (w.2.1 + 514)]) (fun _ _ k => e_iconst (v := 4) dX12_token_256 (by decide) k) ?_
      obtain ⟨g177, hf⟩ := xg hf
      refine es_iast dX12_token_257 (by decide) (cel_514 _) g177 ?_
      refine es_l (pc' := 262) (ls' := [(4, .long 0), (3, .int x1), (2, .int v169), (0, .ref (w.2.1 + 503)), (1, .int x1)]) (st' := [.int (x1 + 1), .ref (w.2.1 + 503)]) (fun _ _ k => e_aload_n dX12_token_258 3 rfl (e_iload_n dX12_token_259 4 rfl (e_iconst (v := 1) dX12_token_260 (by decide) (e_iadd dX12_token_261 k)))) ?_
      refine es_callVI (as := [.int (x1 + 1)]) (rest := []) hf xc_12 dX12_token_262 cs_X12_token_X12_byteAt ml_X12_212 im_X12_byteAt se_X12_byteAt rfl rfl (Nat.le_of_ble_eq_true rfl) (Nat.le_of_ble_eq_true rfl) (by decide) rfl (cel_503 _ _ _) (fun _ e => t_X12_byteAt N (x1 + 1) (sI S174 514 ((S174.1 503 18).toNatClampNeg) 4) _ e) (by decide) (fun v179 S178 hf => ?_)
      refine es_l (pc' := 267) (ls' := [(4, .long 0), (3, .int x1), (2, .int v169), (0, .ref (w.2.1 + 503)), (1, .int x1)]) (st' := [.int 61, .int v179]) (fun _ _ k => e_bipush (v := 61) dX12_token_265 (by decide) k) ?_
      refine es_br (c := v179 = 61) (tgt := 270) (pf := 292) (st' := []) (fun _ _ a b => e_icmp_ne dX12_token_267 rfl b a) (fun c180 => ?_) (fun c180 => ?_)
      · rw [if_pos c180] at hf
        refine es_l (pc' := 273) (ls' := [(4, .long 0), (3, .int x1), (2, .int v169), (0, .ref (w.2.1 + 503)), (1, .int x1)]) (st' := [.int 33, .int v169]) (fun _ _ k => e_iload_n dX12_token_270 2 rfl (e_bipush (v := 33) dX12_token_271 (by decide) k)) ?_
        refine es_br (c := v169 = 33) (tgt := 288) (pf := 276) (st' := []) (fun _ _ a b => e_icmp_eq dX12_token_273 rfl a b) (fun c181 => ?_) (fun c181 => ?_)
        · rw [if_pos c181] at hf
          refine es_sub [3, 4, 2] rfl ?_
          exact t_X12_token_288 N x1 v169 S178 r hf
        · rw [if_neg c181] at hf
          refine es_l (pc' := 279) (ls' := [(4, .long 0), (3, .int x1), (2, .int v169), (0, .ref (w.2.1 + 503)), (1, .int x1)]) (st' := [.int 60, .int v169]) (fun _ _ k => e_iload_n dX12_token_276 2 rfl (e_bipush (v := 60) dX12_token_277 (by decide) k)) ?_
          refine es_br (c := v169 = 60) (tgt := 288) (pf := 282) (st' := []) (fun _ _ a b => e_icmp_eq dX12_token_279 rfl a b) (fun c182 => ?_) (fun c182 => ?_)
          · rw [if_pos c182] at hf
            refine es_sub [3, 4, 2] rfl ?_
            exact t_X12_token_288 N x1 v169 S178 r hf
          · rw [if_neg c182] at hf
            refine es_l (pc' := 285) (ls' := [(4, .long 0), (3, .int x1), (2, .int v169), (0, .ref (w.2.1 + 503)), (1, .int x1)]) (st' := [.int 62, .int v169]) (fun _ _ k => e_iload_n dX12_token_282 2 rfl (e_bipush (v := 62) dX12_token_283 (by decide) k)) ?_
            refine es_br (c := v169 = 62) (tgt := 288) (pf := 292) (st' := []) (fun _ _ a b => e_icmp_ne dX12_token_285 rfl b a) (fun c183 => ?_) (fun c183 => ?_)
            · rw [if_pos c183] at hf
              refine es_sub [3, 4, 2] rfl ?_
              exact t_X12_token_288 N x1 v169 S178 r hf
            · rw [if_neg c183] at hf
              refine es_sub [3, 4, 2] rfl ?_
              exact t_X12_token_292 N x1 v169 S178 r hf
      · rw [if_neg c180] at hf
        refine es_sub [3, 4, 2] rfl ?_
        exact t_X12_token_292 N x1 v169 S178 r hf
    · rw [if_neg c176] at hf
      refine es_sub [3, 1, 0] rfl ?_
      exact t_X12_token_162 N N x1 0 S174 r hf
  · rw [if_neg c173] at hf
    refine es_sub [3, 4, 1, 0] rfl ?_
    exact t_X12_token_28 N N x1 x1 0 S171 r hf
def f_X12_scan_31 (N : Nat) (k7 : Int32 → xS → Option xr) (k11 : Int32 → xS → Option xr) (x1 : Int32) (S : xS) : Option xr :=
  k11 (x1 + 1) S
set_option maxRecDepth 100000 in
set_option maxHeartbeats 4000000 in
theorem t_X12_scan_31 {l : Launch} {w : xW} {g : Nat → xE} (N : Nat) (k7 : Int32 → xS → Option xr) (k11 : Int32 → xS → Option xr) (hk7 : ∀ (x1 : Int32) (S : xS) (r : xr), k7 x1 S = some r → ES l w g M_X12_scan 7 [(0, .ref (w.2.1 + 503)), (1, .int x1)] [] S r) (hk11 : ∀ (x1 : Int32) (S : xS) (r : xr), k11 x1 S = some r → ES l w g M_X12_scan 11 [(0, .ref (w.2.1 + 503)), (1, .int x1)] [] S r) (x1 : Int32) (S : xS) (r : xr) (hf : f_X12_scan_31 N k7 k11 x1 S = some r) : ES l w g M_X12_scan 31 [(0, .ref (w.2.1 + 503)), (1, .int x1)] [] S r := by
  unfold f_X12_scan_31 at hf
  refine es_l (pc' := 11) (ls' := [(1, .int (x1 + 1)), (0, .ref (w.2.1 + 503))]) (st' := []) (fun _ _ k => e_iinc (v := x1 + 1) (ls' := [(1, .int (x1 + 1)), (0, .ref (w.2.1 + 503))]) dX12_scan_31 1 rfl rfl (by decide) rfl (e_goto (tgt := 11) dX12_scan_34 rfl k)) ?_
  refine es_sub [1, 0] rfl ?_
  exact hk11 (x1 + 1) S r hf
def f_X12_scan_11 (N : Nat) (k7 : Int32 → xS → Option xr) : Nat → Int32 → xS → Option xr
  | 0, _, _ => none
  | n + 1, x1, S =>
  xcI (f_X12_byteAt N x1 S) (fun v30 S29 =>
  if v30 = 32 then
    f_X12_scan_31 N k7 (f_X12_scan_11 N k7 n) x1 S29
  else
    xcI (f_X12_byteAt N x1 S29) (fun v33 S32 =>
    if v33 = 10 then
      f_X12_scan_31 N k7 (f_X12_scan_11 N k7 n) x1 S32
    else
      if xin (S32.1 503 18) 152 then
      if x1 = (S32.1 503 2) then
        some (.inl none, sI (sI S32 515 ((S32.1 503 18).toNatClampNeg) x1) 514 ((S32.1 503 18).toNatClampNeg) 0)
      else
        if (S32.1 503 18) = 150 then
          some (.inl none, sI (sI S32 515 ((S32.1 503 18).toNatClampNeg) x1) 514 ((S32.1 503 18).toNatClampNeg) 7)
        else
          xcI (f_X12_token N x1 (sI S32 515 ((S32.1 503 18).toNatClampNeg) x1)) (fun v39 S38 =>
          if 0 ≤ v39 then
            k7 v39 (sI S38 503 18 ((S38.1 503 18) + 1))
          else
            if xin (S38.1 503 18) 152 then
            k7 v39 (sI S38 514 ((S38.1 503 18).toNatClampNeg) 8)
            else none
          )
      else none
    )
  )
set_option maxRecDepth 100000 in
set_option maxHeartbeats 4000000 in
theorem t_X12_scan_11 {l : Launch} {w : xW} {g : Nat → xE} (N : Nat) (k7 : Int32 → xS → Option xr) (hk7 : ∀ (x1 : Int32) (S : xS) (r : xr), k7 x1 S = some r → ES l w g M_X12_scan 7 [(0, .ref (w.2.1 + 503)), (1, .int x1)] [] S r) : ∀ (n : Nat) (x1 : Int32) (S : xS) (r : xr), f_X12_scan_11 N k7 n x1 S = some r → ES l w g M_X12_scan 11 [(0, .ref (w.2.1 + 503)), (1, .int x1)] [] S r := by
  intro n
  induction n with
  | zero => intro x1 S r hf; cases hf
  | succ n ih =>
    intro x1 S r hf
    rw [f_X12_scan_11.eq_2] at hf
    refine es_l (pc' := 13) (ls' := [(0, .ref (w.2.1 + 503)), (1, .int x1)]) (st' := [.int x1, .ref (w.2.1 + 503)]) (fun _ _ k => e_aload_n dX12_scan_11 0 rfl (e_iload_n dX12_scan_12 1 rfl k)) ?_
    refine es_callVI (as := [.int x1]) (rest := []) hf xc_12 dX12_scan_13 cs_X12_scan_X12_byteAt ml_X12_212 im_X12_byteAt se_X12_byteAt rfl rfl (Nat.le_of_ble_eq_true rfl) (Nat.le_of_ble_eq_true rfl) (by decide) rfl (cel_503 _ _ _) (fun _ e => t_X12_byteAt N x1 S _ e) (by decide) (fun v30 S29 hf => ?_)
    refine es_l (pc' := 18) (ls' := [(0, .ref (w.2.1 + 503)), (1, .int x1)]) (st' := [.int 32, .int v30]) (fun _ _ k => e_bipush (v := 32) dX12_scan_16 (by decide) k) ?_
    refine es_br (c := v30 = 32) (tgt := 31) (pf := 21) (st' := []) (fun _ _ a b => e_icmp_eq dX12_scan_18 rfl a b) (fun c31 => ?_) (fun c31 => ?_)
    · rw [if_pos c31] at hf
      exact t_X12_scan_31 N k7 (f_X12_scan_11 N k7 n) hk7 ih x1 S29 r hf
    · rw [if_neg c31] at hf
      refine es_l (pc' := 23) (ls' := [(0, .ref (w.2.1 + 503)), (1, .int x1)]) (st' := [.int x1, .ref (w.2.1 + 503)]) (fun _ _ k => e_aload_n dX12_scan_21 0 rfl (e_iload_n dX12_scan_22 1 rfl k)) ?_
      refine es_callVI (as := [.int x1]) (rest := []) hf xc_12 dX12_scan_23 cs_X12_scan_X12_byteAt ml_X12_212 im_X12_byteAt se_X12_byteAt rfl rfl (Nat.le_of_ble_eq_true rfl) (Nat.le_of_ble_eq_true rfl) (by decide) rfl (cel_503 _ _ _) (fun _ e => t_X12_byteAt N x1 S29 _ e) (by decide) (fun v33 S32 hf => ?_)
      refine es_l (pc' := 28) (ls' := [(0, .ref (w.2.1 + 503)), (1, .int x1)]) (st' := [.int 10, .int v33]) (fun _ _ k => e_bipush (v := 10) dX12_scan_26 (by decide) k) ?_
      refine es_br (c := v33 = 10) (tgt := 31) (pf := 37) (st' := []) (fun _ _ a b => e_icmp_ne dX12_scan_28 rfl b a) (fun c34 => ?_) (fun c34 => ?_)
      · rw [if_pos c34] at hf
        exact t_X12_scan_31 N k7 (f_X12_scan_11 N k7 n) hk7 ih x1 S32 r hf
      · rw [if_neg c34] at hf
        refine es_l (pc' := 38) (ls' := [(0, .ref (w.2.1 + 503)), (1, .int x1)]) (st' := [.ref (w.2.1 + 503)]) (fun _ _ k => e_aload_n dX12_scan_37 0 rfl k) ?_
        refine es_get (v := .ref (w.2.1 + 515)) xc_12 dX12_scan_38 fl_X12_60 (by decide) (by decide) (cel_503 _ _ _) rfl ?_
        refine es_l (pc' := 42) (ls' := [(0, .ref (w.2.1 + 503)), (1, .int x1)]) (st' := [.ref (w.2.1 + 503), .ref (w.2.1 + 515)]) (fun _ _ k => e_aload_n dX12_scan_41 0 rfl k) ?_
        refine es_get (v := .int (S32.1 503 18)) xc_12 dX12_scan_42 fl_X12_66 (by decide) (by decide) (cel_503 _ _ _) rfl ?_
        refine es_l (pc' := 46) (ls' := [(0, .ref (w.2.1 + 503)), (1, .int x1)]) (st' := [.int x1, .int (S32.1 503 18), .ref (w.2.1 + 515)]) (fun _ _ k => e_iload_n dX12_scan_45 1 rfl k) ?_
        obtain ⟨g35, hf⟩ := xg hf
        refine es_iast dX12_scan_46 (by decide) (cel_515 _) g35 ?_
        refine es_l (pc' := 49) (ls' := [(0, .ref (w.2.1 + 503)), (1, .int x1)]) (st' := [.ref (w.2.1 + 503), .int x1]) (fun _ _ k => e_iload_n dX12_scan_47 1 rfl (e_aload_n dX12_scan_48 0 rfl k)) ?_
        refine es_get (v := .int (S32.1 503 2)) xc_12 dX12_scan_49 fl_X12_17 (by decide) (by decide) (cel_503 _ _ _) rfl ?_
        refine es_br (c := x1 = (S32.1 503 2)) (tgt := 55) (pf := 66) (st' := []) (fun _ _ a b => e_icmp_ne dX12_scan_52 rfl b a) (fun c36 => ?_) (fun c36 => ?_)
        · rw [if_pos c36] at hf
          refine es_l (pc' := 56) (ls' := [(0, .ref (w.2.1 + 503)), (1, .int x1)]) (st' := [.ref (w.2.1 + 503)]) (fun _ _ k => e_aload_n dX12_scan_55 0 rfl k) ?_
          refine es_get (v := .ref (w.2.1 + 514)) xc_12 dX12_scan_56 fl_X12_57 (by decide) (by decide) (cel_503 _ _ _) rfl ?_
          refine es_l (pc' := 60) (ls' := [(0, .ref (w.2.1 + 503)), (1, .int x1)]) (st' := [.ref (w.2.1 + 503), .ref (w.2.1 + 514)]) (fun _ _ k => e_aload_n dX12_scan_59 0 rfl k) ?_
          refine es_get (v := .int (S32.1 503 18)) xc_12 dX12_scan_60 fl_X12_66 (by decide) (by decide) (cel_503 _ _ _) rfl ?_
          refine es_l (pc' := 64) (ls' := [(0, .ref (w.2.1 + 503)), (1, .int x1)]) (st' := [.int 0, .int (S32.1 503 18), .ref (w.2.1 + 514)]) (fun _ _ k => e_iconst (v := 0) dX12_scan_63 (by decide) k) ?_
          refine es_iast dX12_scan_64 (by decide) (cel_514 _) g35 ?_
          exact es_return dX12_scan_65 rfl hf
        · rw [if_neg c36] at hf
          refine es_l (pc' := 67) (ls' := [(0, .ref (w.2.1 + 503)), (1, .int x1)]) (st' := [.ref (w.2.1 + 503)]) (fun _ _ k => e_aload_n dX12_scan_66 0 rfl k) ?_
          refine es_get (v := .int (S32.1 503 18)) xc_12 dX12_scan_67 fl_X12_66 (by decide) (by decide) (cel_503 _ _ _) rfl ?_
          refine es_l (pc' := 73) (ls' := [(0, .ref (w.2.1 + 503)), (1, .int x1)]) (st' := [.int 150, .int (S32.1 503 18)]) (fun _ _ k => e_sipush (v := 150) dX12_scan_70 (by decide) k) ?_
          refine es_br (c := (S32.1 503 18) = 150) (tgt := 76) (pf := 88) (st' := []) (fun _ _ a b => e_icmp_ne dX12_scan_73 rfl b a) (fun c37 => ?_) (fun c37 => ?_)
          · rw [if_pos c37] at hf
            refine es_l (pc' := 77) (ls' := [(0, .ref (w.2.1 + 503)), (1, .int x1)]) (st' := [.ref (w.2.1 + 503)]) (fun _ _ k => e_aload_n dX12_scan_76 0 rfl k) ?_
            refine es_get (v := .ref (w.2.1 + 514)) xc_12 dX12_scan_77 fl_X12_57 (by decide) (by decide) (cel_503 _ _ _) rfl ?_
            refine es_l (pc' := 81) (ls' := [(0, .ref (w.2.1 + 503)), (1, .int x1)]) (st' := [.ref (w.2.1 + 503), .ref (w.2.1 + 514)]) (fun _ _ k => e_aload_n dX12_scan_80 0 rfl k) ?_
            refine es_get (v := .int (S32.1 503 18)) xc_12 dX12_scan_81 fl_X12_66 (by decide) (by decide) (cel_503 _ _ _) rfl ?_
            refine es_l (pc' := 86) (ls' := [(0, .ref (w.2.1 + 503)), (1, .int x1)]) (st' := [.int 7, .int (S32.1 503 18), .ref (w.2.1 + 514)]) (fun _ _ k => e_bipush (v := 7) dX12_scan_84 (by decide) k) ?_
            refine es_iast dX12_scan_86 (by decide) (cel_514 _) g35 ?_
            exact es_return dX12_scan_87 rfl hf
          · rw [if_neg c37] at hf
            refine es_l (pc' := 90) (ls' := [(0, .ref (w.2.1 + 503)), (1, .int x1)]) (st' := [.int x1, .ref (w.2.1 + 503)]) (fun _ _ k => e_aload_n dX12_scan_88 0 rfl (e_iload_n dX12_scan_89 1 rfl k)) ?_
            refine es_callVI (as := [.int x1]) (rest := []) hf xc_12 dX12_scan_90 cs_X12_scan_X12_token ml_X12_229 im_X12_token se_X12_token rfl rfl (Nat.le_of_ble_eq_true rfl) (Nat.le_of_ble_eq_true rfl) (by decide) rfl (cel_503 _ _ _) (fun _ e => t_X12_token N x1 (sI S32 515 ((S32.1 503 18).toNatClampNeg) x1) _ e) (by decide) (fun v39 S38 hf => ?_)
            refine es_l (pc' := 95) (ls' := [(1, .int v39), (0, .ref (w.2.1 + 503))]) (st' := [.int v39]) (fun _ _ k => e_istore_n (ls' := [(1, .int v39), (0, .ref (w.2.1 + 503))]) dX12_scan_93 (by decide) rfl (e_iload_n dX12_scan_94 0 rfl k)) ?_
            refine es_br (c := 0 ≤ v39) (tgt := 112) (pf := 98) (st' := []) (fun _ _ a b => e_if_ge dX12_scan_95 rfl a b) (fun c40 => ?_) (fun c40 => ?_)
            · rw [if_pos c40] at hf
              refine es_l (pc' := 114) (ls' := [(1, .int v39), (0, .ref (w.2.1 + 503))]) (st' := [.ref (w.2.1 + 503), .ref (w.2.1 + 503)]) (fun _ _ k => e_aload_n dX12_scan_112 1 rfl (e_dup dX12_scan_113 rfl k)) ?_
              refine es_get (v := .int (S38.1 503 18)) xc_12 dX12_scan_114 fl_X12_66 (by decide) (by decide) (cel_503 _ _ _) rfl ?_
              refine es_l (pc' := 119) (ls' := [(1, .int v39), (0, .ref (w.2.1 + 503))]) (st' := [.int ((S38.1 503 18) + 1), .ref (w.2.1 + 503)]) (fun _ _ k => e_iconst (v := 1) dX12_scan_117 (by decide) (e_iadd dX12_scan_118 k)) ?_
              refine es_put xc_12 dX12_scan_119 fl_X12_66 (by decide) (by decide) (by decide) (cel_503 _ _ _) rfl rfl rfl rfl ?_
              refine es_l (pc' := 7) (ls' := [(1, .int v39), (0, .ref (w.2.1 + 503))]) (st' := []) (fun _ _ k => e_goto (tgt := 7) dX12_scan_122 rfl k) ?_
              refine es_sub [1, 0] rfl ?_
              exact hk7 v39 (sI S38 503 18 ((S38.1 503 18) + 1)) r hf
            · rw [if_neg c40] at hf
              refine es_l (pc' := 99) (ls' := [(1, .int v39), (0, .ref (w.2.1 + 503))]) (st' := [.ref (w.2.1 + 503)]) (fun _ _ k => e_aload_n dX12_scan_98 1 rfl k) ?_
              refine es_get (v := .ref (w.2.1 + 514)) xc_12 dX12_scan_99 fl_X12_57 (by decide) (by decide) (cel_503 _ _ _) rfl ?_
              refine es_l (pc' := 103) (ls' := [(1, .int v39), (0, .ref (w.2.1 + 503))]) (st' := [.ref (w.2.1 + 503), .ref (w.2.1 + 514)]) (fun _ _ k => e_aload_n dX12_scan_102 1 rfl k) ?_
              refine es_get (v := .int (S38.1 503 18)) xc_12 dX12_scan_103 fl_X12_66 (by decide) (by decide) (cel_503 _ _ _) rfl ?_
              refine es_l (pc' := 108) (ls' := [(1, .int v39), (0, .ref (w.2.1 + 503))]) (st' := [.int 8, .int (S38.1 503 18), .ref (w.2.1 + 514)]) (fun _ _ k => e_bipush (v := 8) dX12_scan_106 (by decide) k) ?_
              obtain ⟨g41, hf⟩ := xg hf
              refine es_iast dX12_scan_108 (by decide) (cel_514 _) g41 ?_
              refine es_l (pc' := 7) (ls' := [(1, .int v39), (0, .ref (w.2.1 + 503))]) (st' := []) (fun _ _ k => e_goto (tgt := 7) dX12_scan_109 rfl k) ?_
              refine es_sub [1, 0] rfl ?_
              exact hk7 v39 (sI S38 514 ((S38.1 503 18).toNatClampNeg) 8) r hf
def f_X12_scan_7 (N : Nat)  : Nat → Int32 → xS → Option xr
  | 0, _, _ => none
  | n + 1, x1, S =>
  if x1 < 0 then
    some (.inl none, S)
  else
    f_X12_scan_11 N (f_X12_scan_7 N n) N x1 S
set_option maxRecDepth 100000 in
set_option maxHeartbeats 4000000 in
theorem t_X12_scan_7 {l : Launch} {w : xW} {g : Nat → xE} (N : Nat)   : ∀ (n : Nat) (x1 : Int32) (S : xS) (r : xr), f_X12_scan_7 N  n x1 S = some r → ES l w g M_X12_scan 7 [(0, .ref (w.2.1 + 503)), (1, .int x1)] [] S r := by
  intro n
  induction n with
  | zero => intro x1 S r hf; cases hf
  | succ n ih =>
    intro x1 S r hf
    rw [f_X12_scan_7.eq_2] at hf
    refine es_l (pc' := 8) (ls' := [(0, .ref (w.2.1 + 503)), (1, .int x1)]) (st' := [.int x1]) (fun _ _ k => e_iload_n dX12_scan_7 1 rfl k) ?_
    refine es_br (c := x1 < 0) (tgt := 125) (pf := 11) (st' := []) (fun _ _ a b => e_if_lt dX12_scan_8 rfl a b) (fun c42 => ?_) (fun c42 => ?_)
    · rw [if_pos c42] at hf
      exact es_return dX12_scan_125 rfl hf
    · rw [if_neg c42] at hf
      exact t_X12_scan_11 N (f_X12_scan_7 N n) ih N x1 S r hf
def f_X12_scan (N : Nat)  (S : xS) : Option xr :=
  f_X12_scan_7 N N 0 (sI S 503 18 0)
set_option maxRecDepth 100000 in
set_option maxHeartbeats 4000000 in
theorem t_X12_scan {l : Launch} {w : xW} {g : Nat → xE} (N : Nat)  (S : xS) (r : xr) (hf : f_X12_scan N  S = some r) : ES l w g M_X12_scan 0 (lv_args 0 [.ref (w.2.1 + 503)]) [] S r := by
  show ES l w g M_X12_scan 0 [(0, .ref (w.2.1 + 503))] [] S r
  unfold f_X12_scan at hf
  refine es_l (pc' := 2) (ls' := [(0, .ref (w.2.1 + 503))]) (st' := [.int 0, .ref (w.2.1 + 503)]) (fun _ _ k => e_aload_n dX12_scan_0 0 rfl (e_iconst (v := 0) dX12_scan_1 (by decide) k)) ?_
  refine es_put xc_12 dX12_scan_2 fl_X12_66 (by decide) (by decide) (by decide) (cel_503 _ _ _) rfl rfl rfl rfl ?_
  refine es_l (pc' := 7) (ls' := [(1, .int 0), (0, .ref (w.2.1 + 503))]) (st' := []) (fun _ _ k => e_iconst (v := 0) dX12_scan_5 (by decide) (e_istore_n (ls' := [(1, .int 0), (0, .ref (w.2.1 + 503))]) dX12_scan_6 (by decide) rfl k)) ?_
  refine es_sub [1, 0] rfl ?_
  exact t_X12_scan_7 N N 0 (sI S 503 18 0) r hf
