def f_X12_steps (N : Nat)  (S : xS) : Option xr :=
  some (.inl (some (.inl (S.1 503 36))), sI S 503 0 0)
set_option maxRecDepth 100000 in
set_option maxHeartbeats 4000000 in
theorem t_X12_steps {l : Launch} {w : xW} {g : Nat → xE} (N : Nat)  (S : xS) (r : xr) (hf : f_X12_steps N  S = some r) : ES l w g M_X12_steps 0 (lv_args 0 [.ref (w.2.1 + 503)]) [] S r := by
  show ES l w g M_X12_steps 0 [(0, .ref (w.2.1 + 503))] [] S r
  unfold f_X12_steps at hf
  refine es_l (pc' := 2) (ls' := [(0, .ref (w.2.1 + 503))]) (st' := [.int 0, .ref (w.2.1 + 503)]) (fun _ _ k => e_aload_n dX12_steps_0 0 rfl (e_iconst (v := 0) dX12_steps_1 (by decide) k)) ?_
  refine es_put xc_12 dX12_steps_2 fl_X12_7 (by decide) (by decide) (by decide) (cel_503 _ _ _) rfl rfl rfl rfl ?_
  refine es_l (pc' := 6) (ls' := [(0, .ref (w.2.1 + 503))]) (st' := [.ref (w.2.1 + 503)]) (fun _ _ k => e_aload_n dX12_steps_5 0 rfl k) ?_
  refine es_get (v := .int (S.1 503 36)) xc_12 dX12_steps_6 fl_X12_121 (by decide) (by decide) (cel_503 _ _ _) rfl ?_
  exact es_ireturn (ty := .int) dX12_steps_9 rfl rfl hf
def f_X12_printed (N : Nat)  (S : xS) : Option xr :=
  some (.inl (some (.inl (S.1 503 47))), sI S 503 0 0)
set_option maxRecDepth 100000 in
set_option maxHeartbeats 4000000 in
theorem t_X12_printed {l : Launch} {w : xW} {g : Nat → xE} (N : Nat)  (S : xS) (r : xr) (hf : f_X12_printed N  S = some r) : ES l w g M_X12_printed 0 (lv_args 0 [.ref (w.2.1 + 503)]) [] S r := by
  show ES l w g M_X12_printed 0 [(0, .ref (w.2.1 + 503))] [] S r
  unfold f_X12_printed at hf
  refine es_l (pc' := 2) (ls' := [(0, .ref (w.2.1 + 503))]) (st' := [.int 0, .ref (w.2.1 + 503)]) (fun _ _ k => e_aload_n dX12_printed_0 0 rfl (e_iconst (v := 0) dX12_printed_1 (by decide) k)) ?_
  refine es_put xc_12 dX12_printed_2 fl_X12_7 (by decide) (by decide) (by decide) (cel_503 _ _ _) rfl rfl rfl rfl ?_
  refine es_l (pc' := 6) (ls' := [(0, .ref (w.2.1 + 503))]) (st' := [.ref (w.2.1 + 503)]) (fun _ _ k => e_aload_n dX12_printed_5 0 rfl k) ?_
  refine es_get (v := .int (S.1 503 47)) xc_12 dX12_printed_6 fl_X12_155 (by decide) (by decide) (cel_503 _ _ _) rfl ?_
  exact es_ireturn (ty := .int) dX12_printed_9 rfl rfl hf
def f_X12_print_52 (N : Nat)  (s0 : Int32) (S : xS) : Option xr :=
  some (.inl (some (.inl s0)), S)
set_option maxRecDepth 100000 in
set_option maxHeartbeats 4000000 in
theorem t_X12_print_52 {l : Launch} {w : xW} {g : Nat → xE} (N : Nat)   (s0 : Int32) (S : xS) (r : xr) (hf : f_X12_print_52 N  s0 S = some r) : ES l w g M_X12_print 52 [] [.int s0] S r := by
  unfold f_X12_print_52 at hf
  exact es_ireturn (ty := .int) dX12_print_52 rfl rfl hf
def f_X12_print_29 (N : Nat)  (x1 : Int32) (s0 : Int32) (S : xS) : Option xr :=
  if s0 = 0 then
    if xin (x1 - x1 / 64 * 64) 64 then
    f_X12_print_52 N (S.1 532 ((x1 - x1 / 64 * 64).toNatClampNeg)) (sI S 503 0 s0)
    else none
  else
    f_X12_print_52 N 0 (sI S 503 0 s0)
set_option maxRecDepth 100000 in
set_option maxHeartbeats 4000000 in
theorem t_X12_print_29 {l : Launch} {w : xW} {g : Nat → xE} (N : Nat)   (x1 : Int32) (s0 : Int32) (S : xS) (r : xr) (hf : f_X12_print_29 N  x1 s0 S = some r) : ES l w g M_X12_print 29 [(0, .ref (w.2.1 + 503)), (1, .int x1)] [.int s0, .ref (w.2.1 + 503)] S r := by
  unfold f_X12_print_29 at hf
  refine es_put xc_12 dX12_print_29 fl_X12_7 (by decide) (by decide) (by decide) (cel_503 _ _ _) rfl rfl rfl rfl ?_
  refine es_l (pc' := 33) (ls' := [(0, .ref (w.2.1 + 503)), (1, .int x1)]) (st' := [.ref (w.2.1 + 503)]) (fun _ _ k => e_aload_n dX12_print_32 0 rfl k) ?_
  refine es_get (v := .int s0) xc_12 dX12_print_33 fl_X12_7 (by decide) (by decide) (cel_503 _ _ _) rfl ?_
  refine es_br (c := s0 = 0) (tgt := 43) (pf := 39) (st' := []) (fun _ _ a b => e_if_eq dX12_print_36 rfl a b) (fun c11 => ?_) (fun c11 => ?_)
  · rw [if_pos c11] at hf
    refine es_l (pc' := 44) (ls' := [(0, .ref (w.2.1 + 503)), (1, .int x1)]) (st' := [.ref (w.2.1 + 503)]) (fun _ _ k => e_aload_n dX12_print_43 0 rfl k) ?_
    refine es_get (v := .ref (w.2.1 + 532)) xc_12 dX12_print_44 fl_X12_152 (by decide) (by decide) (cel_503 _ _ _) rfl ?_
    refine es_l (pc' := 51) (ls' := [(0, .ref (w.2.1 + 503)), (1, .int x1)]) (st' := [.int (x1 - x1 / 64 * 64), .ref (w.2.1 + 532)]) (fun _ _ k => e_iload_n dX12_print_47 1 rfl (e_bipush (v := 64) dX12_print_48 (by decide) (e_irem dX12_print_50 (by decide) k))) ?_
    obtain ⟨g12, hf⟩ := xg hf
    refine es_iald (v := .int (S.1 532 ((x1 - x1 / 64 * 64).toNatClampNeg))) dX12_print_51 (by decide) (cel_532 _ _ _) g12 rfl ?_
    refine es_sub [] rfl ?_
    exact t_X12_print_52 N (S.1 532 ((x1 - x1 / 64 * 64).toNatClampNeg)) (sI S 503 0 s0) r hf
  · rw [if_neg c11] at hf
    refine es_l (pc' := 52) (ls' := [(0, .ref (w.2.1 + 503)), (1, .int x1)]) (st' := [.int 0]) (fun _ _ k => e_iconst (v := 0) dX12_print_39 (by decide) (e_goto (tgt := 52) dX12_print_40 rfl k)) ?_
    refine es_sub [] rfl ?_
    exact t_X12_print_52 N 0 (sI S 503 0 s0) r hf
def f_X12_print_24 (N : Nat)  (x1 : Int32) (S : xS) : Option xr :=
  f_X12_print_29 N x1 1 S
set_option maxRecDepth 100000 in
set_option maxHeartbeats 4000000 in
theorem t_X12_print_24 {l : Launch} {w : xW} {g : Nat → xE} (N : Nat)   (x1 : Int32) (S : xS) (r : xr) (hf : f_X12_print_24 N  x1 S = some r) : ES l w g M_X12_print 24 [(0, .ref (w.2.1 + 503)), (1, .int x1)] [.ref (w.2.1 + 503)] S r := by
  unfold f_X12_print_24 at hf
  refine es_l (pc' := 29) (ls' := [(0, .ref (w.2.1 + 503)), (1, .int x1)]) (st' := [.int 1, .ref (w.2.1 + 503)]) (fun _ _ k => e_iconst (v := 1) dX12_print_24 (by decide) (e_goto (tgt := 29) dX12_print_25 rfl k)) ?_
  exact t_X12_print_29 N x1 1 S r hf
def f_X12_print (N : Nat) (x1 : Int32) (S : xS) : Option xr :=
  if x1 < 0 then
    f_X12_print_24 N x1 S
  else
    if (S.1 503 47) ≤ x1 then
      f_X12_print_24 N x1 S
    else
      if ((S.1 503 47) - 64) ≤ x1 then
        f_X12_print_29 N x1 0 S
      else
        f_X12_print_24 N x1 S
set_option maxRecDepth 100000 in
set_option maxHeartbeats 4000000 in
theorem t_X12_print {l : Launch} {w : xW} {g : Nat → xE} (N : Nat) (x1 : Int32) (S : xS) (r : xr) (hf : f_X12_print N x1 S = some r) : ES l w g M_X12_print 0 (lv_args 0 [.ref (w.2.1 + 503), .int x1]) [] S r := by
  show ES l w g M_X12_print 0 [(0, .ref (w.2.1 + 503)), (1, .int x1)] [] S r
  unfold f_X12_print at hf
  refine es_l (pc' := 2) (ls' := [(0, .ref (w.2.1 + 503)), (1, .int x1)]) (st' := [.int x1, .ref (w.2.1 + 503)]) (fun _ _ k => e_aload_n dX12_print_0 0 rfl (e_iload_n dX12_print_1 1 rfl k)) ?_
  refine es_br (c := x1 < 0) (tgt := 24) (pf := 5) (st' := [.ref (w.2.1 + 503)]) (fun _ _ a b => e_if_lt dX12_print_2 rfl a b) (fun c13 => ?_) (fun c13 => ?_)
  · rw [if_pos c13] at hf
    exact t_X12_print_24 N x1 S r hf
  · rw [if_neg c13] at hf
    refine es_l (pc' := 7) (ls' := [(0, .ref (w.2.1 + 503)), (1, .int x1)]) (st' := [.ref (w.2.1 + 503), .int x1, .ref (w.2.1 + 503)]) (fun _ _ k => e_iload_n dX12_print_5 1 rfl (e_aload_n dX12_print_6 0 rfl k)) ?_
    refine es_get (v := .int (S.1 503 47)) xc_12 dX12_print_7 fl_X12_155 (by decide) (by decide) (cel_503 _ _ _) rfl ?_
    refine es_br (c := (S.1 503 47) ≤ x1) (tgt := 24) (pf := 13) (st' := [.ref (w.2.1 + 503)]) (fun _ _ a b => e_icmp_ge dX12_print_10 rfl a b) (fun c14 => ?_) (fun c14 => ?_)
    · rw [if_pos c14] at hf
      exact t_X12_print_24 N x1 S r hf
    · rw [if_neg c14] at hf
      refine es_l (pc' := 15) (ls' := [(0, .ref (w.2.1 + 503)), (1, .int x1)]) (st' := [.ref (w.2.1 + 503), .int x1, .ref (w.2.1 + 503)]) (fun _ _ k => e_iload_n dX12_print_13 1 rfl (e_aload_n dX12_print_14 0 rfl k)) ?_
      refine es_get (v := .int (S.1 503 47)) xc_12 dX12_print_15 fl_X12_155 (by decide) (by decide) (cel_503 _ _ _) rfl ?_
      refine es_l (pc' := 21) (ls' := [(0, .ref (w.2.1 + 503)), (1, .int x1)]) (st' := [.int ((S.1 503 47) - 64), .int x1, .ref (w.2.1 + 503)]) (fun _ _ k => e_bipush (v := 64) dX12_print_18 (by decide) (e_isub dX12_print_20 k)) ?_
      refine es_br (c := ((S.1 503 47) - 64) ≤ x1) (tgt := 28) (pf := 24) (st' := [.ref (w.2.1 + 503)]) (fun _ _ a b => e_icmp_ge dX12_print_21 rfl a b) (fun c15 => ?_) (fun c15 => ?_)
      · rw [if_pos c15] at hf
        refine es_l (pc' := 29) (ls' := [(0, .ref (w.2.1 + 503)), (1, .int x1)]) (st' := [.int 0, .ref (w.2.1 + 503)]) (fun _ _ k => e_iconst (v := 0) dX12_print_28 (by decide) k) ?_
        exact t_X12_print_29 N x1 0 S r hf
      · rw [if_neg c15] at hf
        exact t_X12_print_24 N x1 S r hf
def f_X12_word_92 (N : Nat)  (s0 : Int32) (S : xS) : Option xr :=
  some (.inl (some (.inl s0)), S)
set_option maxRecDepth 100000 in
set_option maxHeartbeats 4000000 in
theorem t_X12_word_92 {l : Launch} {w : xW} {g : Nat → xE} (N : Nat)   (s0 : Int32) (S : xS) (r : xr) (hf : f_X12_word_92 N  s0 S = some r) : ES l w g M_X12_word 92 [] [.int s0] S r := by
  unfold f_X12_word_92 at hf
  exact es_ireturn (ty := .int) dX12_word_92 rfl rfl hf
def f_X12_word_75 (N : Nat)   (S : xS) : Option xr :=
  f_X12_word_92 N 0 S
set_option maxRecDepth 100000 in
set_option maxHeartbeats 4000000 in
theorem t_X12_word_75 {l : Launch} {w : xW} {g : Nat → xE} (N : Nat)    (S : xS) (r : xr) (hf : f_X12_word_75 N   S = some r) : ES l w g M_X12_word 75 [] [] S r := by
  unfold f_X12_word_75 at hf
  refine es_l (pc' := 92) (ls' := []) (st' := [.int 0]) (fun _ _ k => e_iconst (v := 0) dX12_word_75 (by decide) (e_goto (tgt := 92) dX12_word_76 rfl k)) ?_
  exact t_X12_word_92 N 0 S r hf
def f_X12_word_26 (N : Nat)  (x1 : Int32) (x2 : Int32) (s0 : Int32) (S : xS) : Option xr :=
  if s0 = 0 then
    if x2 = 0 then
      if xin x1 64 then
      some (.inl (some (.inl (S.1 511 x1.toNatClampNeg))), sI S 503 0 s0)
      else none
    else
      if xin x1 64 then
      if (S.1 511 x1.toNatClampNeg) = 0 then
        f_X12_word_75 N (sI S 503 0 s0)
      else
        if xin ((S.1 511 x1.toNatClampNeg) - 1) 7 then
        if x2 ≤ (S.1 506 (((S.1 511 x1.toNatClampNeg) - 1).toNatClampNeg)) then
          if xin (((6 * x1) + x2) - 1) 384 then
          f_X12_word_92 N (S.1 512 ((((6 * x1) + x2) - 1).toNatClampNeg)) (sI S 503 0 s0)
          else none
        else
          f_X12_word_75 N (sI S 503 0 s0)
        else none
      else none
  else
    some (.inl (some (.inl 0)), sI S 503 0 s0)
set_option maxRecDepth 100000 in
set_option maxHeartbeats 4000000 in
theorem t_X12_word_26 {l : Launch} {w : xW} {g : Nat → xE} (N : Nat)   (x1 : Int32) (x2 : Int32) (s0 : Int32) (S : xS) (r : xr) (hf : f_X12_word_26 N  x1 x2 s0 S = some r) : ES l w g M_X12_word 26 [(0, .ref (w.2.1 + 503)), (1, .int x1), (2, .int x2)] [.int s0, .ref (w.2.1 + 503)] S r := by
  unfold f_X12_word_26 at hf
  refine es_put xc_12 dX12_word_26 fl_X12_7 (by decide) (by decide) (by decide) (cel_503 _ _ _) rfl rfl rfl rfl ?_
  refine es_l (pc' := 30) (ls' := [(0, .ref (w.2.1 + 503)), (1, .int x1), (2, .int x2)]) (st' := [.ref (w.2.1 + 503)]) (fun _ _ k => e_aload_n dX12_word_29 0 rfl k) ?_
  refine es_get (v := .int s0) xc_12 dX12_word_30 fl_X12_7 (by decide) (by decide) (cel_503 _ _ _) rfl ?_
  refine es_br (c := s0 = 0) (tgt := 38) (pf := 36) (st' := []) (fun _ _ a b => e_if_eq dX12_word_33 rfl a b) (fun c25 => ?_) (fun c25 => ?_)
  · rw [if_pos c25] at hf
    refine es_l (pc' := 39) (ls' := [(0, .ref (w.2.1 + 503)), (1, .int x1), (2, .int x2)]) (st' := [.int x2]) (fun _ _ k => e_iload_n dX12_word_38 2 rfl k) ?_
    refine es_br (c := x2 = 0) (tgt := 42) (pf := 49) (st' := []) (fun _ _ a b => e_if_ne dX12_word_39 rfl b a) (fun c26 => ?_) (fun c26 => ?_)
    · rw [if_pos c26] at hf
      refine es_l (pc' := 43) (ls' := [(0, .ref (w.2.1 + 503)), (1, .int x1), (2, .int x2)]) (st' := [.ref (w.2.1 + 503)]) (fun _ _ k => e_aload_n dX12_word_42 0 rfl k) ?_
      refine es_get (v := .ref (w.2.1 + 511)) xc_12 dX12_word_43 fl_X12_45 (by decide) (by decide) (cel_503 _ _ _) rfl ?_
      refine es_l (pc' := 47) (ls' := [(0, .ref (w.2.1 + 503)), (1, .int x1), (2, .int x2)]) (st' := [.int x1, .ref (w.2.1 + 511)]) (fun _ _ k => e_iload_n dX12_word_46 1 rfl k) ?_
      obtain ⟨g27, hf⟩ := xg hf
      refine es_iald (v := .int (S.1 511 x1.toNatClampNeg)) dX12_word_47 (by decide) (cel_511 _ _ _) g27 rfl ?_
      exact es_ireturn (ty := .int) dX12_word_48 rfl rfl hf
    · rw [if_neg c26] at hf
      refine es_l (pc' := 50) (ls' := [(0, .ref (w.2.1 + 503)), (1, .int x1), (2, .int x2)]) (st' := [.ref (w.2.1 + 503)]) (fun _ _ k => e_aload_n dX12_word_49 0 rfl k) ?_
      refine es_get (v := .ref (w.2.1 + 511)) xc_12 dX12_word_50 fl_X12_45 (by decide) (by decide) (cel_503 _ _ _) rfl ?_
      refine es_l (pc' := 54) (ls' := [(0, .ref (w.2.1 + 503)), (1, .int x1), (2, .int x2)]) (st' := [.int x1, .ref (w.2.1 + 511)]) (fun _ _ k => e_iload_n dX12_word_53 1 rfl k) ?_
      obtain ⟨g28, hf⟩ := xg hf
      refine es_iald (v := .int (S.1 511 x1.toNatClampNeg)) dX12_word_54 (by decide) (cel_511 _ _ _) g28 rfl ?_
      refine es_br (c := (S.1 511 x1.toNatClampNeg) = 0) (tgt := 75) (pf := 58) (st' := []) (fun _ _ a b => e_if_eq dX12_word_55 rfl a b) (fun c29 => ?_) (fun c29 => ?_)
      · rw [if_pos c29] at hf
        refine es_sub [] rfl ?_
        exact t_X12_word_75 N (sI S 503 0 s0) r hf
      · rw [if_neg c29] at hf
        refine es_l (pc' := 60) (ls' := [(0, .ref (w.2.1 + 503)), (1, .int x1), (2, .int x2)]) (st' := [.ref (w.2.1 + 503), .int x2]) (fun _ _ k => e_iload_n dX12_word_58 2 rfl (e_aload_n dX12_word_59 0 rfl k)) ?_
        refine es_get (v := .ref (w.2.1 + 506)) xc_12 dX12_word_60 fl_X12_27 (by decide) (by decide) (cel_503 _ _ _) rfl ?_
        refine es_l (pc' := 64) (ls' := [(0, .ref (w.2.1 + 503)), (1, .int x1), (2, .int x2)]) (st' := [.ref (w.2.1 + 503), .ref (w.2.1 + 506), .int x2]) (fun _ _ k => e_aload_n dX12_word_63 0 rfl k) ?_
        refine es_get (v := .ref (w.2.1 + 511)) xc_12 dX12_word_64 fl_X12_45 (by decide) (by decide) (cel_503 _ _ _) rfl ?_
        refine es_l (pc' := 68) (ls' := [(0, .ref (w.2.1 + 503)), (1, .int x1), (2, .int x2)]) (st' := [.int x1, .ref (w.2.1 + 511), .ref (w.2.1 + 506), .int x2]) (fun _ _ k => e_iload_n dX12_word_67 1 rfl k) ?_
        refine es_iald (v := .int (S.1 511 x1.toNatClampNeg)) dX12_word_68 (by decide) (cel_511 _ _ _) g28 rfl ?_
        refine es_l (pc' := 71) (ls' := [(0, .ref (w.2.1 + 503)), (1, .int x1), (2, .int x2)]) (st' := [.int ((S.1 511 x1.toNatClampNeg) - 1), .ref (w.2.1 + 506), .int x2]) (fun _ _ k => e_iconst (v := 1) dX12_word_69 (by decide) (e_isub dX12_word_70 k)) ?_
        obtain ⟨g30, hf⟩ := xg hf
        refine es_iald (v := .int (S.1 506 (((S.1 511 x1.toNatClampNeg) - 1).toNatClampNeg))) dX12_word_71 (by decide) (cel_506 _ _ _) g30 rfl ?_
        refine es_br (c := x2 ≤ (S.1 506 (((S.1 511 x1.toNatClampNeg) - 1).toNatClampNeg))) (tgt := 79) (pf := 75) (st' := []) (fun _ _ a b => e_icmp_le dX12_word_72 rfl a b) (fun c31 => ?_) (fun c31 => ?_)
        · rw [if_pos c31] at hf
          refine es_l (pc' := 80) (ls' := [(0, .ref (w.2.1 + 503)), (1, .int x1), (2, .int x2)]) (st' := [.ref (w.2.1 + 503)]) (fun _ _ k => e_aload_n dX12_word_79 0 rfl k) ?_
          refine es_get (v := .ref (w.2.1 + 512)) xc_12 dX12_word_80 fl_X12_48 (by decide) (by decide) (cel_503 _ _ _) rfl ?_
          refine es_l (pc' := 91) (ls' := [(0, .ref (w.2.1 + 503)), (1, .int x1), (2, .int x2)]) (st' := [.int (((6 * x1) + x2) - 1), .ref (w.2.1 + 512)]) (fun _ _ k => e_bipush (v := 6) dX12_word_83 (by decide) (e_iload_n dX12_word_85 1 rfl (e_imul dX12_word_86 (e_iload_n dX12_word_87 2 rfl (e_iadd dX12_word_88 (e_iconst (v := 1) dX12_word_89 (by decide) (e_isub dX12_word_90 k))))))) ?_
          obtain ⟨g32, hf⟩ := xg hf
          refine es_iald (v := .int (S.1 512 ((((6 * x1) + x2) - 1).toNatClampNeg))) dX12_word_91 (by decide) (cel_512 _ _ _) g32 rfl ?_
          refine es_sub [] rfl ?_
          exact t_X12_word_92 N (S.1 512 ((((6 * x1) + x2) - 1).toNatClampNeg)) (sI S 503 0 s0) r hf
        · rw [if_neg c31] at hf
          refine es_sub [] rfl ?_
          exact t_X12_word_75 N (sI S 503 0 s0) r hf
  · rw [if_neg c25] at hf
    refine es_l (pc' := 37) (ls' := [(0, .ref (w.2.1 + 503)), (1, .int x1), (2, .int x2)]) (st' := [.int 0]) (fun _ _ k => e_iconst (v := 0) dX12_word_36 (by decide) k) ?_
    exact es_ireturn (ty := .int) dX12_word_37 rfl rfl hf
def f_X12_word_21 (N : Nat)  (x1 : Int32) (x2 : Int32) (S : xS) : Option xr :=
  f_X12_word_26 N x1 x2 1 S
set_option maxRecDepth 100000 in
set_option maxHeartbeats 4000000 in
theorem t_X12_word_21 {l : Launch} {w : xW} {g : Nat → xE} (N : Nat)   (x1 : Int32) (x2 : Int32) (S : xS) (r : xr) (hf : f_X12_word_21 N  x1 x2 S = some r) : ES l w g M_X12_word 21 [(0, .ref (w.2.1 + 503)), (1, .int x1), (2, .int x2)] [.ref (w.2.1 + 503)] S r := by
  unfold f_X12_word_21 at hf
  refine es_l (pc' := 26) (ls' := [(0, .ref (w.2.1 + 503)), (1, .int x1), (2, .int x2)]) (st' := [.int 1, .ref (w.2.1 + 503)]) (fun _ _ k => e_iconst (v := 1) dX12_word_21 (by decide) (e_goto (tgt := 26) dX12_word_22 rfl k)) ?_
  exact t_X12_word_26 N x1 x2 1 S r hf
def f_X12_word (N : Nat) (x1 : Int32) (x2 : Int32) (S : xS) : Option xr :=
  if x1 < 0 then
    f_X12_word_21 N x1 x2 S
  else
    if 63 < x1 then
      f_X12_word_21 N x1 x2 S
    else
      if x2 < 0 then
        f_X12_word_21 N x1 x2 S
      else
        if x2 ≤ 6 then
          f_X12_word_26 N x1 x2 0 S
        else
          f_X12_word_21 N x1 x2 S
set_option maxRecDepth 100000 in
set_option maxHeartbeats 4000000 in
theorem t_X12_word {l : Launch} {w : xW} {g : Nat → xE} (N : Nat) (x1 : Int32) (x2 : Int32) (S : xS) (r : xr) (hf : f_X12_word N x1 x2 S = some r) : ES l w g M_X12_word 0 (lv_args 0 [.ref (w.2.1 + 503), .int x1, .int x2]) [] S r := by
  show ES l w g M_X12_word 0 [(0, .ref (w.2.1 + 503)), (1, .int x1), (2, .int x2)] [] S r
  unfold f_X12_word at hf
  refine es_l (pc' := 2) (ls' := [(0, .ref (w.2.1 + 503)), (1, .int x1), (2, .int x2)]) (st' := [.int x1, .ref (w.2.1 + 503)]) (fun _ _ k => e_aload_n dX12_word_0 0 rfl (e_iload_n dX12_word_1 1 rfl k)) ?_
  refine es_br (c := x1 < 0) (tgt := 21) (pf := 5) (st' := [.ref (w.2.1 + 503)]) (fun _ _ a b => e_if_lt dX12_word_2 rfl a b) (fun c33 => ?_) (fun c33 => ?_)
  · rw [if_pos c33] at hf
    exact t_X12_word_21 N x1 x2 S r hf
  · rw [if_neg c33] at hf
    refine es_l (pc' := 8) (ls' := [(0, .ref (w.2.1 + 503)), (1, .int x1), (2, .int x2)]) (st' := [.int 63, .int x1, .ref (w.2.1 + 503)]) (fun _ _ k => e_iload_n dX12_word_5 1 rfl (e_bipush (v := 63) dX12_word_6 (by decide) k)) ?_
    refine es_br (c := 63 < x1) (tgt := 21) (pf := 11) (st' := [.ref (w.2.1 + 503)]) (fun _ _ a b => e_icmp_gt dX12_word_8 rfl a b) (fun c34 => ?_) (fun c34 => ?_)
    · rw [if_pos c34] at hf
      exact t_X12_word_21 N x1 x2 S r hf
    · rw [if_neg c34] at hf
      refine es_l (pc' := 12) (ls' := [(0, .ref (w.2.1 + 503)), (1, .int x1), (2, .int x2)]) (st' := [.int x2, .ref (w.2.1 + 503)]) (fun _ _ k => e_iload_n dX12_word_11 2 rfl k) ?_
      refine es_br (c := x2 < 0) (tgt := 21) (pf := 15) (st' := [.ref (w.2.1 + 503)]) (fun _ _ a b => e_if_lt dX12_word_12 rfl a b) (fun c35 => ?_) (fun c35 => ?_)
      · rw [if_pos c35] at hf
        exact t_X12_word_21 N x1 x2 S r hf
      · rw [if_neg c35] at hf
        refine es_l (pc' := 18) (ls' := [(0, .ref (w.2.1 + 503)), (1, .int x1), (2, .int x2)]) (st' := [.int 6, .int x2, .ref (w.2.1 + 503)]) (fun _ _ k => e_iload_n dX12_word_15 2 rfl (e_bipush (v := 6) dX12_word_16 (by decide) k)) ?_
        refine es_br (c := x2 ≤ 6) (tgt := 25) (pf := 21) (st' := [.ref (w.2.1 + 503)]) (fun _ _ a b => e_icmp_le dX12_word_18 rfl a b) (fun c36 => ?_) (fun c36 => ?_)
        · rw [if_pos c36] at hf
          refine es_l (pc' := 26) (ls' := [(0, .ref (w.2.1 + 503)), (1, .int x1), (2, .int x2)]) (st' := [.int 0, .ref (w.2.1 + 503)]) (fun _ _ k => e_iconst (v := 0) dX12_word_25 (by decide) k) ?_
          exact t_X12_word_26 N x1 x2 0 S r hf
        · rw [if_neg c36] at hf
          exact t_X12_word_21 N x1 x2 S r hf
def f_X12_records_30 (N : Nat) (k9 : Int32 → Int32 → xS → Option xr) (x2 : Int32) (s0 : Int32) (s1 : Int32) (S : xS) : Option xr :=
  k9 (s1 + s0) (x2 + 1) S
set_option maxRecDepth 100000 in
set_option maxHeartbeats 4000000 in
theorem t_X12_records_30 {l : Launch} {w : xW} {g : Nat → xE} (N : Nat) (k9 : Int32 → Int32 → xS → Option xr) (hk9 : ∀ (x1 : Int32) (x2 : Int32) (S : xS) (r : xr), k9 x1 x2 S = some r → ES l w g M_X12_records 9 [(0, .ref (w.2.1 + 503)), (1, .int x1), (2, .int x2)] [] S r) (x2 : Int32) (s0 : Int32) (s1 : Int32) (S : xS) (r : xr) (hf : f_X12_records_30 N k9 x2 s0 s1 S = some r) : ES l w g M_X12_records 30 [(0, .ref (w.2.1 + 503)), (2, .int x2)] [.int s0, .int s1] S r := by
  unfold f_X12_records_30 at hf
  refine es_l (pc' := 9) (ls' := [(2, .int (x2 + 1)), (1, .int (s1 + s0)), (0, .ref (w.2.1 + 503))]) (st' := []) (fun _ _ k => e_iadd dX12_records_30 (e_istore_n (ls' := [(1, .int (s1 + s0)), (0, .ref (w.2.1 + 503)), (2, .int x2)]) dX12_records_31 (by decide) rfl (e_iinc (v := x2 + 1) (ls' := [(2, .int (x2 + 1)), (1, .int (s1 + s0)), (0, .ref (w.2.1 + 503))]) dX12_records_32 2 rfl rfl (by decide) rfl (e_goto (tgt := 9) dX12_records_35 rfl k)))) ?_
  refine es_sub [2, 1, 0] rfl ?_
  exact hk9 (s1 + s0) (x2 + 1) S r hf
def f_X12_records_9 (N : Nat)  : Nat → Int32 → Int32 → xS → Option xr
  | 0, _, _, _ => none
  | n + 1, x1, x2, S =>
  if 64 ≤ x2 then
    some (.inl (some (.inl x1)), S)
  else
    if xin x2 64 then
    if (S.1 511 x2.toNatClampNeg) ≤ 0 then
      f_X12_records_30 N (f_X12_records_9 N n) x2 0 x1 S
    else
      f_X12_records_30 N (f_X12_records_9 N n) x2 1 x1 S
    else none
set_option maxRecDepth 100000 in
set_option maxHeartbeats 4000000 in
theorem t_X12_records_9 {l : Launch} {w : xW} {g : Nat → xE} (N : Nat)   : ∀ (n : Nat) (x1 : Int32) (x2 : Int32) (S : xS) (r : xr), f_X12_records_9 N  n x1 x2 S = some r → ES l w g M_X12_records 9 [(0, .ref (w.2.1 + 503)), (1, .int x1), (2, .int x2)] [] S r := by
  intro n
  induction n with
  | zero => intro x1 x2 S r hf; cases hf
  | succ n ih =>
    intro x1 x2 S r hf
    rw [f_X12_records_9.eq_2] at hf
    refine es_l (pc' := 12) (ls' := [(0, .ref (w.2.1 + 503)), (1, .int x1), (2, .int x2)]) (st' := [.int 64, .int x2]) (fun _ _ k => e_iload_n dX12_records_9 2 rfl (e_bipush (v := 64) dX12_records_10 (by decide) k)) ?_
    refine es_br (c := 64 ≤ x2) (tgt := 38) (pf := 15) (st' := []) (fun _ _ a b => e_icmp_ge dX12_records_12 rfl a b) (fun c7 => ?_) (fun c7 => ?_)
    · rw [if_pos c7] at hf
      refine es_l (pc' := 39) (ls' := [(0, .ref (w.2.1 + 503)), (1, .int x1), (2, .int x2)]) (st' := [.int x1]) (fun _ _ k => e_iload_n dX12_records_38 1 rfl k) ?_
      exact es_ireturn (ty := .int) dX12_records_39 rfl rfl hf
    · rw [if_neg c7] at hf
      refine es_l (pc' := 17) (ls' := [(0, .ref (w.2.1 + 503)), (1, .int x1), (2, .int x2)]) (st' := [.ref (w.2.1 + 503), .int x1]) (fun _ _ k => e_iload_n dX12_records_15 1 rfl (e_aload_n dX12_records_16 0 rfl k)) ?_
      refine es_get (v := .ref (w.2.1 + 511)) xc_12 dX12_records_17 fl_X12_45 (by decide) (by decide) (cel_503 _ _ _) rfl ?_
      refine es_l (pc' := 21) (ls' := [(0, .ref (w.2.1 + 503)), (1, .int x1), (2, .int x2)]) (st' := [.int x2, .ref (w.2.1 + 511), .int x1]) (fun _ _ k => e_iload_n dX12_records_20 2 rfl k) ?_
      obtain ⟨g8, hf⟩ := xg hf
      refine es_iald (v := .int (S.1 511 x2.toNatClampNeg)) dX12_records_21 (by decide) (cel_511 _ _ _) g8 rfl ?_
      refine es_br (c := (S.1 511 x2.toNatClampNeg) ≤ 0) (tgt := 29) (pf := 25) (st' := [.int x1]) (fun _ _ a b => e_if_le dX12_records_22 rfl a b) (fun c9 => ?_) (fun c9 => ?_)
      · rw [if_pos c9] at hf
        refine es_l (pc' := 30) (ls' := [(0, .ref (w.2.1 + 503)), (1, .int x1), (2, .int x2)]) (st' := [.int 0, .int x1]) (fun _ _ k => e_iconst (v := 0) dX12_records_29 (by decide) k) ?_
        refine es_sub [0, 2] rfl ?_
        exact t_X12_records_30 N (f_X12_records_9 N n) ih x2 0 x1 S r hf
      · rw [if_neg c9] at hf
        refine es_l (pc' := 30) (ls' := [(0, .ref (w.2.1 + 503)), (1, .int x1), (2, .int x2)]) (st' := [.int 1, .int x1]) (fun _ _ k => e_iconst (v := 1) dX12_records_25 (by decide) (e_goto (tgt := 30) dX12_records_26 rfl k)) ?_
        refine es_sub [0, 2] rfl ?_
        exact t_X12_records_30 N (f_X12_records_9 N n) ih x2 1 x1 S r hf
def f_X12_records (N : Nat)  (S : xS) : Option xr :=
  f_X12_records_9 N N 0 0 (sI S 503 0 0)
set_option maxRecDepth 100000 in
set_option maxHeartbeats 4000000 in
theorem t_X12_records {l : Launch} {w : xW} {g : Nat → xE} (N : Nat)  (S : xS) (r : xr) (hf : f_X12_records N  S = some r) : ES l w g M_X12_records 0 (lv_args 0 [.ref (w.2.1 + 503)]) [] S r := by
  show ES l w g M_X12_records 0 [(0, .ref (w.2.1 + 503))] [] S r
  unfold f_X12_records at hf
  refine es_l (pc' := 2) (ls' := [(0, .ref (w.2.1 + 503))]) (st' := [.int 0, .ref (w.2.1 + 503)]) (fun _ _ k => e_aload_n dX12_records_0 0 rfl (e_iconst (v := 0) dX12_records_1 (by decide) k)) ?_
  refine es_put xc_12 dX12_records_2 fl_X12_7 (by decide) (by decide) (by decide) (cel_503 _ _ _) rfl rfl rfl rfl ?_
  refine es_l (pc' := 9) (ls' := [(2, .int 0), (1, .int 0), (0, .ref (w.2.1 + 503))]) (st' := []) (fun _ _ k => e_iconst (v := 0) dX12_records_5 (by decide) (e_istore_n (ls' := [(1, .int 0), (0, .ref (w.2.1 + 503))]) dX12_records_6 (by decide) rfl (e_iconst (v := 0) dX12_records_7 (by decide) (e_istore_n (ls' := [(2, .int 0), (1, .int 0), (0, .ref (w.2.1 + 503))]) dX12_records_8 (by decide) rfl k)))) ?_
  refine es_sub [2, 1, 0] rfl ?_
  exact t_X12_records_9 N N 0 0 (sI S 503 0 0) r hf
