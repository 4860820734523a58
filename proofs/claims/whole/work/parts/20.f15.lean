def f_X12_pay (N : Nat)  (S : xS) : Option xr :=
  if (S.1 503 36) = (S.1 503 35) then
    some (.inl (some (.inl 0)), S)
  else
    some (.inl (some (.inl 1)), sI S 503 36 ((S.1 503 36) + 1))
set_option maxRecDepth 100000 in
set_option maxHeartbeats 4000000 in
theorem t_X12_pay {l : Launch} {w : xW} {g : Nat → xE} (N : Nat)  (S : xS) (r : xr) (hf : f_X12_pay N  S = some r) : ES l w g M_X12_pay 0 (lv_args 0 [.ref (w.2.1 + 503)]) [] S r := by
  show ES l w g M_X12_pay 0 [(0, .ref (w.2.1 + 503))] [] S r
  unfold f_X12_pay at hf
  refine es_l (pc' := 1) (ls' := [(0, .ref (w.2.1 + 503))]) (st' := [.ref (w.2.1 + 503)]) (fun _ _ k => e_aload_n dX12_pay_0 0 rfl k) ?_
  refine es_get (v := .int (S.1 503 36)) xc_12 dX12_pay_1 fl_X12_121 (by decide) (by decide) (cel_503 _ _ _) rfl ?_
  refine es_l (pc' := 5) (ls' := [(0, .ref (w.2.1 + 503))]) (st' := [.ref (w.2.1 + 503), .int (S.1 503 36)]) (fun _ _ k => e_aload_n dX12_pay_4 0 rfl k) ?_
  refine es_get (v := .int (S.1 503 35)) xc_12 dX12_pay_5 fl_X12_118 (by decide) (by decide) (cel_503 _ _ _) rfl ?_
  refine es_br (c := (S.1 503 36) = (S.1 503 35)) (tgt := 11) (pf := 13) (st' := []) (fun _ _ a b => e_icmp_ne dX12_pay_8 rfl b a) (fun c2 => ?_) (fun c2 => ?_)
  · rw [if_pos c2] at hf
    refine es_l (pc' := 12) (ls' := [(0, .ref (w.2.1 + 503))]) (st' := [.int 0]) (fun _ _ k => e_iconst (v := 0) dX12_pay_11 (by decide) k) ?_
    exact es_ireturn (ty := .boolean) dX12_pay_12 rfl rfl hf
  · rw [if_neg c2] at hf
    refine es_l (pc' := 15) (ls' := [(0, .ref (w.2.1 + 503))]) (st' := [.ref (w.2.1 + 503), .ref (w.2.1 + 503)]) (fun _ _ k => e_aload_n dX12_pay_13 0 rfl (e_dup dX12_pay_14 rfl k)) ?_
    refine es_get (v := .int (S.1 503 36)) xc_12 dX12_pay_15 fl_X12_121 (by decide) (by decide) (cel_503 _ _ _) rfl ?_
    refine es_l (pc' := 20) (ls' := [(0, .ref (w.2.1 + 503))]) (st' := [.int ((S.1 503 36) + 1), .ref (w.2.1 + 503)]) (fun _ _ k => e_iconst (v := 1) dX12_pay_18 (by decide) (e_iadd dX12_pay_19 k)) ?_
    refine es_put xc_12 dX12_pay_20 fl_X12_121 (by decide) (by decide) (by decide) (cel_503 _ _ _) rfl rfl rfl rfl ?_
    refine es_l (pc' := 24) (ls' := [(0, .ref (w.2.1 + 503))]) (st' := [.int 1]) (fun _ _ k => e_iconst (v := 1) dX12_pay_23 (by decide) k) ?_
    exact es_ireturn (ty := .boolean) dX12_pay_24 rfl rfl hf
def f_X12_put_89 (N : Nat)   (S : xS) : Option xr :=
  some (.inl none, S)
set_option maxRecDepth 100000 in
set_option maxHeartbeats 4000000 in
theorem t_X12_put_89 {l : Launch} {w : xW} {g : Nat → xE} (N : Nat)    (S : xS) (r : xr) (hf : f_X12_put_89 N   S = some r) : ES l w g M_X12_put 89 [] [] S r := by
  unfold f_X12_put_89 at hf
  exact es_return dX12_put_89 rfl hf
def f_X12_put (N : Nat) (x1 : Int32) (S : xS) : Option xr :=
  if xin (x1 + 1) 3000 then
  xcI (f_X12_cursorThere N (S.1 518 ((x1 + 1).toNatClampNeg)) (sI S 503 39 ((S.1 503 39) - 1))) (fun v27 S26 =>
  if v27 = 0 then
    f_X12_put_89 N S26
  else
    if xin (S.1 518 ((x1 + 1).toNatClampNeg)) 12 then
    if xin ((64 * (S.1 518 ((x1 + 1).toNatClampNeg))) + (S26.1 529 ((S.1 518 ((x1 + 1).toNatClampNeg)).toNatClampNeg))) 768 then
    if xin (x1 + 3) 3000 then
    if xin (x1 + 2) 3000 then
    if xin (S26.1 503 39) 8 then
    xcI (f_X12_cut N (S26.1 518 ((x1 + 2).toNatClampNeg)) (S26.1 518 ((x1 + 3).toNatClampNeg)) (S26.1 525 ((S26.1 503 39).toNatClampNeg)) S26) (fun v35 S34 =>
    if xin ((6 * (S26.1 526 (((64 * (S.1 518 ((x1 + 1).toNatClampNeg))) + (S26.1 529 ((S.1 518 ((x1 + 1).toNatClampNeg)).toNatClampNeg))).toNatClampNeg))) + (S26.1 518 ((x1 + 3).toNatClampNeg))) 384 then
    f_X12_put_89 N (sI S34 512 (((6 * (S26.1 526 (((64 * (S.1 518 ((x1 + 1).toNatClampNeg))) + (S26.1 529 ((S.1 518 ((x1 + 1).toNatClampNeg)).toNatClampNeg))).toNatClampNeg))) + (S26.1 518 ((x1 + 3).toNatClampNeg))).toNatClampNeg) v35)
    else none
    )
    else none
    else none
    else none
    else none
    else none
  )
  else none
set_option maxRecDepth 100000 in
set_option maxHeartbeats 4000000 in
theorem t_X12_put {l : Launch} {w : xW} {g : Nat → xE} (N : Nat) (x1 : Int32) (S : xS) (r : xr) (hf : f_X12_put N x1 S = some r) : ES l w g M_X12_put 0 (lv_args 0 [.ref (w.2.1 + 503), .int x1]) [] S r := by
  show ES l w g M_X12_put 0 [(0, .ref (w.2.1 + 503)), (1, .int x1)] [] S r
  unfold f_X12_put at hf
  refine es_l (pc' := 1) (ls' := [(0, .ref (w.2.1 + 503)), (1, .int x1)]) (st' := [.ref (w.2.1 + 503)]) (fun _ _ k => e_aload_n dX12_put_0 0 rfl k) ?_
  refine es_get (v := .ref (w.2.1 + 518)) xc_12 dX12_put_1 fl_X12_85 (by decide) (by decide) (cel_503 _ _ _) rfl ?_
  refine es_l (pc' := 7) (ls' := [(0, .ref (w.2.1 + 503)), (1, .int x1)]) (st' := [.int (x1 + 1), .ref (w.2.1 + 518)]) (fun _ _ k => e_iload_n dX12_put_4 1 rfl (e_iconst (v := 1) dX12_put_5 (by decide) (e_iadd dX12_put_6 k))) ?_
  obtain ⟨g25, hf⟩ := xg hf
  refine es_iald (v := .int (S.1 518 ((x1 + 1).toNatClampNeg))) dX12_put_7 (by decide) (cel_518 _ _ _) g25 rfl ?_
  refine es_l (pc' := 11) (ls' := [(2, .int (S.1 518 ((x1 + 1).toNatClampNeg))), (0, .ref (w.2.1 + 503)), (1, .int x1)]) (st' := [.ref (w.2.1 + 503), .ref (w.2.1 + 503)]) (fun _ _ k => e_istore_n (ls' := [(2, .int (S.1 518 ((x1 + 1).toNatClampNeg))), (0, .ref (w.2.1 + 503)), (1, .int x1)]) dX12_put_8 (by decide) rfl (e_aload_n dX12_put_9 1 rfl (e_dup dX12_put_10 rfl k))) ?_
  refine es_get (v := .int (S.1 503 39)) xc_12 dX12_put_11 fl_X12_130 (by decide) (by decide) (cel_503 _ _ _) rfl ?_
  refine es_l (pc' := 16) (ls' := [(2, .int (S.1 518 ((x1 + 1).toNatClampNeg))), (0, .ref (w.2.1 + 503)), (1, .int x1)]) (st' := [.int ((S.1 503 39) - 1), .ref (w.2.1 + 503)]) (fun _ _ k => e_iconst (v := 1) dX12_put_14 (by decide) (e_isub dX12_put_15 k)) ?_
  refine es_put xc_12 dX12_put_16 fl_X12_130 (by decide) (by decide) (by decide) (cel_503 _ _ _) rfl rfl rfl rfl ?_
  refine es_l (pc' := 21) (ls' := [(2, .int (S.1 518 ((x1 + 1).toNatClampNeg))), (0, .ref (w.2.1 + 503)), (1, .int x1)]) (st' := [.int (S.1 518 ((x1 + 1).toNatClampNeg)), .ref (w.2.1 + 503)]) (fun _ _ k => e_aload_n dX12_put_19 1 rfl (e_iload_n dX12_put_20 0 rfl k)) ?_
  refine es_callVI (as := [.int (S.1 518 ((x1 + 1).toNatClampNeg))]) (rest := []) hf xc_12 dX12_put_21 cs_X12_put_X12_cursorThere ml_X12_370 im_X12_cursorThere se_X12_cursorThere rfl rfl (Nat.le_of_ble_eq_true rfl) (Nat.le_of_ble_eq_true rfl) (by decide) rfl (cel_503 _ _ _) (fun _ e => t_X12_cursorThere N (S.1 518 ((x1 + 1).toNatClampNeg)) (sI S 503 39 ((S.1 503 39) - 1)) _ e) (by decide) (fun v27 S26 hf => ?_)
  refine es_br (c := v27 = 0) (tgt := 89) (pf := 27) (st' := []) (fun _ _ a b => e_if_eq dX12_put_24 rfl a b) (fun c28 => ?_) (fun c28 => ?_)
  · rw [if_pos c28] at hf
    refine es_sub [] rfl ?_
    exact t_X12_put_89 N S26 r hf
  · rw [if_neg c28] at hf
    refine es_l (pc' := 28) (ls' := [(2, .int (S.1 518 ((x1 + 1).toNatClampNeg))), (0, .ref (w.2.1 + 503)), (1, .int x1)]) (st' := [.ref (w.2.1 + 503)]) (fun _ _ k => e_aload_n dX12_put_27 1 rfl k) ?_
    refine es_get (v := .ref (w.2.1 + 512)) xc_12 dX12_put_28 fl_X12_48 (by decide) (by decide) (cel_503 _ _ _) rfl ?_
    refine es_l (pc' := 34) (ls' := [(2, .int (S.1 518 ((x1 + 1).toNatClampNeg))), (0, .ref (w.2.1 + 503)), (1, .int x1)]) (st' := [.ref (w.2.1 + 503), .int 6, .ref (w.2.1 + 512)]) (fun _ _ k => e_bipush (v := 6) dX12_put_31 (by decide) (e_aload_n dX12_put_33 1 rfl k)) ?_
    refine es_get (v := .ref (w.2.1 + 526)) xc_12 dX12_put_34 fl_X12_133 (by decide) (by decide) (cel_503 _ _ _) rfl ?_
    refine es_l (pc' := 42) (ls' := [(2, .int (S.1 518 ((x1 + 1).toNatClampNeg))), (0, .ref (w.2.1 + 503)), (1, .int x1)]) (st' := [.ref (w.2.1 + 503), .int (64 * (S.1 518 ((x1 + 1).toNatClampNeg))), .ref (w.2.1 + 526), .int 6, .ref (w.2.1 + 512)]) (fun _ _ k => e_bipush (v := 64) dX12_put_37 (by decide) (e_iload_n dX12_put_39 0 rfl (e_imul dX12_put_40 (e_aload_n dX12_put_41 1 rfl k)))) ?_
    refine es_get (v := .ref (w.2.1 + 529)) xc_12 dX12_put_42 fl_X12_142 (by decide) (by decide) (cel_503 _ _ _) rfl ?_
    refine es_l (pc' := 46) (ls' := [(2, .int (S.1 518 ((x1 + 1).toNatClampNeg))), (0, .ref (w.2.1 + 503)), (1, .int x1)]) (st' := [.int (S.1 518 ((x1 + 1).toNatClampNeg)), .ref (w.2.1 + 529), .int (64 * (S.1 518 ((x1 + 1).toNatClampNeg))), .ref (w.2.1 + 526), .int 6, .ref (w.2.1 + 512)]) (fun _ _ k => e_iload_n dX12_put_45 0 rfl k) ?_
    obtain ⟨g29, hf⟩ := xg hf
    refine es_iald (v := .int (S26.1 529 ((S.1 518 ((x1 + 1).toNatClampNeg)).toNatClampNeg))) dX12_put_46 (by decide) (cel_529 _ _ _) g29 rfl ?_
    refine es_l (pc' := 48) (ls' := [(2, .int (S.1 518 ((x1 + 1).toNatClampNeg))), (0, .ref (w.2.1 + 503)), (1, .int x1)]) (st' := [.int ((64 * (S.1 518 ((x1 + 1).toNatClampNeg))) + (S26.1 529 ((S.1 518 ((x1 + 1).toNatClampNeg)).toNatClampNeg))), .ref (w.2.1 + 526), .int 6, .ref (w.2.1 + 512)]) (fun _ _ k => e_iadd dX12_put_47 k) ?_
    obtain ⟨g30, hf⟩ := xg hf
    refine es_iald (v := .int (S26.1 526 (((64 * (S.1 518 ((x1 + 1).toNatClampNeg))) + (S26.1 529 ((S.1 518 ((x1 + 1).toNatClampNeg)).toNatClampNeg))).toNatClampNeg))) dX12_put_48 (by decide) (cel_526 _ _ _) g30 rfl ?_
    refine es_l (pc' := 51) (ls' := [(2, .int (S.1 518 ((x1 + 1).toNatClampNeg))), (0, .ref (w.2.1 + 503)), (1, .int x1)]) (st' := [.ref (w.2.1 + 503), .int (6 * (S26.1 526 (((64 * (S.1 518 ((x1 + 1).toNatClampNeg))) + (S26.1 529 ((S.1 518 ((x1 + 1).toNatClampNeg)).toNatClampNeg))).toNatClampNeg))), .ref (w.2.1 + 512)]) (fun _ _ k => e_imul dX12_put_49 (e_aload_n dX12_put_50 1 rfl k)) ?_
    refine es_get (v := .ref (w.2.1 + 518)) xc_12 dX12_put_51 fl_X12_85 (by decide) (by decide) (cel_503 _ _ _) rfl ?_
    refine es_l (pc' := 57) (ls' := [(2, .int (S.1 518 ((x1 + 1).toNatClampNeg))), (0, .ref (w.2.1 + 503)), (1, .int x1)]) (st' := [.int (x1 + 3), .ref (w.2.1 + 518), .int (6 * (S26.1 526 (((64 * (S.1 518 ((x1 + 1).toNatClampNeg))) + (S26.1 529 ((S.1 518 ((x1 + 1).toNatClampNeg)).toNatClampNeg))).toNatClampNeg))), .ref (w.2.1 + 512)]) (fun _ _ k => e_iload_n dX12_put_54 2 rfl (e_iconst (v := 3) dX12_put_55 (by decide) (e_iadd dX12_put_56 k))) ?_
    obtain ⟨g31, hf⟩ := xg hf
    refine es_iald (v := .int (S26.1 518 ((x1 + 3).toNatClampNeg))) dX12_put_57 (by decide) (cel_518 _ _ _) g31 rfl ?_
    refine es_l (pc' := 61) (ls' := [(2, .int (S.1 518 ((x1 + 1).toNatClampNeg))), (0, .ref (w.2.1 + 503)), (1, .int x1)]) (st' := [.ref (w.2.1 + 503), .ref (w.2.1 + 503), .int ((6 * (S26.1 526 (((64 * (S.1 518 ((x1 + 1).toNatClampNeg))) + (S26.1 529 ((S.1 518 ((x1 + 1).toNatClampNeg)).toNatClampNeg))).toNatClampNeg))) + (S26.1 518 ((x1 + 3).toNatClampNeg))), .ref (w.2.1 + 512)]) (fun _ _ k => e_iadd dX12_put_58 (e_aload_n dX12_put_59 1 rfl (e_aload_n dX12_put_60 1 rfl k))) ?_
    refine es_get (v := .ref (w.2.1 + 518)) xc_12 dX12_put_61 fl_X12_85 (by decide) (by decide) (cel_503 _ _ _) rfl ?_
    refine es_l (pc' := 67) (ls' := [(2, .int (S.1 518 ((x1 + 1).toNatClampNeg))), (0, .ref (w.2.1 + 503)), (1, .int x1)]) (st' := [.int (x1 + 2), .ref (w.2.1 + 518), .ref (w.2.1 + 503), .int ((6 * (S26.1 526 (((64 * (S.1 518 ((x1 + 1).toNatClampNeg))) + (S26.1 529 ((S.1 518 ((x1 + 1).toNatClampNeg)).toNatClampNeg))).toNatClampNeg))) + (S26.1 518 ((x1 + 3).toNatClampNeg))), .ref (w.2.1 + 512)]) (fun _ _ k => e_iload_n dX12_put_64 2 rfl (e_iconst (v := 2) dX12_put_65 (by decide) (e_iadd dX12_put_66 k))) ?_
    obtain ⟨g32, hf⟩ := xg hf
    refine es_iald (v := .int (S26.1 518 ((x1 + 2).toNatClampNeg))) dX12_put_67 (by decide) (cel_518 _ _ _) g32 rfl ?_
    refine es_l (pc' := 69) (ls' := [(2, .int (S.1 518 ((x1 + 1).toNatClampNeg))), (0, .ref (w.2.1 + 503)), (1, .int x1)]) (st' := [.ref (w.2.1 + 503), .int (S26.1 518 ((x1 + 2).toNatClampNeg)), .ref (w.2.1 + 503), .int ((6 * (S26.1 526 (((64 * (S.1 518 ((x1 + 1).toNatClampNeg))) + (S26.1 529 ((S.1 518 ((x1 + 1).toNatClampNeg)).toNatClampNeg))).toNatClampNeg))) + (S26.1 518 ((x1 + 3).toNatClampNeg))), .ref (w.2.1 + 512)]) (fun _ _ k => e_aload_n dX12_put_68 1 rfl k) ?_
    refine es_get (v := .ref (w.2.1 + 518)) xc_12 dX12_put_69 fl_X12_85 (by decide) (by decide) (cel_503 _ _ _) rfl ?_
    refine es_l (pc' := 75) (ls' := [(2, .int (S.1 518 ((x1 + 1).toNatClampNeg))), (0, .ref (w.2.1 + 503)), (1, .int x1)]) (st' := [.int (x1 + 3), .ref (w.2.1 + 518), .int (S26.1 518 ((x1 + 2).toNatClampNeg)), .ref (w.2.1 + 503), .int ((6 * (S26.1 526 (((64 * (S.1 518 ((x1 + 1).toNatClampNeg))) + (S26.1 529 ((S.1 518 ((x1 + 1).toNatClampNeg)).toNatClampNeg))).toNatClampNeg))) + (S26.1 518 ((x1 + 3).toNatClampNeg))), .ref (w.2.1 + 512)]) (fun _ _ k => e_iload_n dX12_put_72 2 rfl (e_iconst (v := 3) dX12_put_73 (by decide) (e_iadd dX12_put_74 k))) ?_
    refine es_iald (v := .int (S26.1 518 ((x1 + 3).toNatClampNeg))) dX12_put_75 (by decide) (cel_518 _ _ _) g31 rfl ?_
    refine es_l (pc' := 77) (ls' := [(2, .int (S.1 518 ((x1 + 1).toNatClampNeg))), (0, .ref (w.2.1 + 503)), (1, .int x1)]) (st' := [.ref (w.2.1 + 503), .int (S26.1 518 ((x1 + 3).toNatClampNeg)), .int (S26.1 518 ((x1 + 2).toNatClampNeg)), .ref (w.2.1 + 503), .int ((6 * (S26.1 526 (((64 * (S.1 518 ((x1 + 1).toNatClampNeg))) + (S26.1 529 ((S.1 518 ((x1 + 1).toNatClampNeg)).toNatClampNeg))).toNatClampNeg))) + (S26.1 518 ((x1 + 3).toNatClampNeg))), .ref (w.2.1 + 512)]) (fun _ _ k => e_aload_n dX12_put_76 1 rfl k) ?_
    refine es_get (v := .ref (w.2.1 + 525)) xc_12 dX12_put_77 fl_X12_127 (by decide) (by decide) (cel_503 _ _ _) rfl ?_
    refine es_l (pc' := 81) (ls' := [(2, .int (S.1 518 ((x1 + 1).toNatClampNeg))), (0, .ref (w.2.1 + 503)), (1, .int x1)]) (st' := [.ref (w.2.1 + 503), .ref (w.2.1 + 525), .int (S26.1 518 ((x1 + 3).toNatClampNeg)), .int (S26.1 518 ((x1 + 2).toNatClampNeg)), .ref (w.2.1 + 503), .int ((6 * (S26.1 526 (((64 * (S.1 518 ((x1 + 1).toNatClampNeg))) + (S26.1 529 ((S.1 518 ((x1 + 1).toNatClampNeg)).toNatClampNeg))).toNatClampNeg))) + (S26.1 518 ((x1 + 3).toNatClampNeg))), .ref (w.2.1 + 512)]) (fun _ _ k => e_aload_n dX12_put_80 1 rfl k) ?_
    refine es_get (v := .int (S26.1 503 39)) xc_12 dX12_put_81 fl_X12_130 (by decide) (by decide) (cel_503 _ _ _) rfl ?_
    obtain ⟨g33, hf⟩ := xg hf
    refine es_iald (v := .int (S26.1 525 ((S26.1 503 39).toNatClampNeg))) dX12_put_84 (by decide) (cel_525 _ _ _) g33 rfl ?_
    refine es_callVI (as := [.int (S26.1 518 ((x1 + 2).toNatClampNeg)), .int (S26.1 518 ((x1 + 3).toNatClampNeg)), .int (S26.1 525 ((S26.1 503 39).toNatClampNeg))]) (rest := [.int ((6 * (S26.1 526 (((64 * (S.1 518 ((x1 + 1).toNatClampNeg))) + (S26.1 529 ((S.1 518 ((x1 + 1).toNatClampNeg)).toNatClampNeg))).toNatClampNeg))) + (S26.1 518 ((x1 + 3).toNatClampNeg))), .ref (w.2.1 + 512)]) hf xc_12 dX12_put_85 cs_X12_put_X12_cut ml_X12_390 im_X12_cut se_X12_cut rfl rfl (Nat.le_of_ble_eq_true rfl) (Nat.le_of_ble_eq_true rfl) (by decide) rfl (cel_503 _ _ _) (fun _ e => t_X12_cut N (S26.1 518 ((x1 + 2).toNatClampNeg)) (S26.1 518 ((x1 + 3).toNatClampNeg)) (S26.1 525 ((S26.1 503 39).toNatClampNeg)) S26 _ e) (by decide) (fun v35 S34 hf => ?_)
    obtain ⟨g36, hf⟩ := xg hf
    refine es_iast dX12_put_88 (by decide) (cel_512 _) g36 ?_
    refine es_sub [] rfl ?_
    exact t_X12_put_89 N (sI S34 512 (((6 * (S26.1 526 (((64 * (S.1 518 ((x1 + 1).toNatClampNeg))) + (S26.1 529 ((S.1 518 ((x1 + 1).toNatClampNeg)).toNatClampNeg))).toNatClampNeg))) + (S26.1 518 ((x1 + 3).toNatClampNeg))).toNatClampNeg) v35) r hf
def f_X12_step_82 (N : Nat)  (s0 : Int32) (S : xS) : Option xr :=
  some (.inl (some (.inl s0)), S)
set_option maxRecDepth 100000 in
set_option maxHeartbeats 4000000 in
theorem t_X12_step_82 {l : Launch} {w : xW} {g : Nat → xE} (N : Nat)   (s0 : Int32) (S : xS) (r : xr) (hf : f_X12_step_82 N  s0 S = some r) : ES l w g M_X12_step 82 [] [.int s0] S r := by
  unfold f_X12_step_82 at hf
  exact es_ireturn (ty := .int) dX12_step_82 rfl rfl hf
def f_X12_step_194 (N : Nat)  (s0 : Int32) (S : xS) : Option xr :=
  some (.inl (some (.inl s0)), S)
set_option maxRecDepth 100000 in
set_option maxHeartbeats 4000000 in
theorem t_X12_step_194 {l : Launch} {w : xW} {g : Nat → xE} (N : Nat)   (s0 : Int32) (S : xS) (r : xr) (hf : f_X12_step_194 N  s0 S = some r) : ES l w g M_X12_step 194 [] [.int s0] S r := by
  unfold f_X12_step_194 at hf
  exact es_ireturn (ty := .int) dX12_step_194 rfl rfl hf
def f_X12_step_234 (N : Nat) (k212 : Int32 → Int32 → xS → Option xr) (x1 : Int32) (x2 : Int32) (S : xS) : Option xr :=
  k212 x1 (x2 + 1) S
set_option maxRecDepth 100000 in
set_option maxHeartbeats 4000000 in
theorem t_X12_step_234 {l : Launch} {w : xW} {g : Nat → xE} (N : Nat) (k212 : Int32 → Int32 → xS → Option xr) (hk212 : ∀ (x1 : Int32) (x2 : Int32) (S : xS) (r : xr), k212 x1 x2 S = some r → ES l w g M_X12_step 212 [(0, .ref (w.2.1 + 503)), (1, .int x1), (2, .int x2)] [] S r) (x1 : Int32) (x2 : Int32) (S : xS) (r : xr) (hf : f_X12_step_234 N k212 x1 x2 S = some r) : ES l w g M_X12_step 234 [(0, .ref (w.2.1 + 503)), (1, .int x1), (2, .int x2)] [] S r := by
  unfold f_X12_step_234 at hf
  refine es_l (pc' := 212) (ls' := [(2, .int (x2 + 1)), (0, .ref (w.2.1 + 503)), (1, .int x1)]) (st' := []) (fun _ _ k => e_iinc (v := x2 + 1) (ls' := [(2, .int (x2 + 1)), (0, .ref (w.2.1 + 503)), (1, .int x1)]) dX12_step_234 2 rfl rfl (by decide) rfl (e_goto (tgt := 212) dX12_step_237 rfl k)) ?_
  refine es_sub [1, 2, 0] rfl ?_
  exact hk212 x1 (x2 + 1) S r hf
def f_X12_step_212 (N : Nat)  : Nat → Int32 → Int32 → xS → Option xr
  | 0, _, _, _ => none
  | n + 1, x1, x2, S =>
  if 64 ≤ x2 then
    if xin (x1 + 2) 3000 then
    some (.inl (some (.inl ((x1 + 3) + (S.1 518 ((x1 + 2).toNatClampNeg))))), S)
    else none
  else
    if xin x2 64 then
    if (S.1 531 x2.toNatClampNeg) = 0 then
      f_X12_step_234 N (f_X12_step_212 N n) x1 x2 S
    else
      f_X12_step_234 N (f_X12_step_212 N n) x1 x2 (sI S 511 x2.toNatClampNeg 0)
    else none
set_option maxRecDepth 100000 in
set_option maxHeartbeats 4000000 in
theorem t_X12_step_212 {l : Launch} {w : xW} {g : Nat → xE} (N : Nat)   : ∀ (n : Nat) (x1 : Int32) (x2 : Int32) (S : xS) (r : xr), f_X12_step_212 N  n x1 x2 S = some r → ES l w g M_X12_step 212 [(0, .ref (w.2.1 + 503)), (1, .int x1), (2, .int x2)] [] S r := by
  intro n
  induction n with
  | zero => intro x1 x2 S r hf; cases hf
  | succ n ih =>
    intro x1 x2 S r hf
    rw [f_X12_step_212.eq_2] at hf
    refine es_l (pc' := 215) (ls' := [(0, .ref (w.2.1 + 503)), (1, .int x1), (2, .int x2)]) (st' := [.int 64, .int x2]) (fun _ _ k => e_iload_n dX12_step_212 2 rfl (e_bipush (v := 64) dX12_step_213 (by decide) k)) ?_
    refine es_br (c := 64 ≤ x2) (tgt := 240) (pf := 218) (st' := []) (fun _ _ a b => e_icmp_ge dX12_step_215 rfl a b) (fun c125 => ?_) (fun c125 => ?_)
    · rw [if_pos c125] at hf
      refine es_l (pc' := 244) (ls' := [(0, .ref (w.2.1 + 503)), (1, .int x1), (2, .int x2)]) (st' := [.ref (w.2.1 + 503), .int (x1 + 3)]) (fun _ _ k => e_iload_n dX12_step_240 1 rfl (e_iconst (v := 3) dX12_step_241 (by decide) (e_iadd dX12_step_242 (e_aload_n dX12_step_243 0 rfl k)))) ?_
      refine es_get (v := .ref (w.2.1 + 518)) xc_12 dX12_step_244 fl_X12_85 (by decide) (by decide) (cel_503 _ _ _) rfl ?_
      refine es_l (pc' := 250) (ls' := [(0, .ref (w.2.1 + 503)), (1, .int x1), (2, .int x2)]) (st' := [.int (x1 + 2), .ref (w.2.1 + 518), .int (x1 + 3)]) (fun _ _ k => e_iload_n dX12_step_247 1 rfl (e_iconst (v := 2) dX12_step_248 (by decide) (e_iadd dX12_step_249 k))) ?_
      obtain ⟨g126, hf⟩ := xg hf
      refine es_iald (v := .int (S.1 518 ((x1 + 2).toNatClampNeg))) dX12_step_250 (by decide) (cel_518 _ _ _) g126 rfl ?_
      refine es_l (pc' := 252) (ls' := [(0, .ref (w.2.1 + 503)), (1, .int x1), (2, .int x2)]) (st' := [.int ((x1 + 3) + (S.1 518 ((x1 + 2).toNatClampNeg)))]) (fun _ _ k => e_iadd dX12_step_251 k) ?_
      exact es_ireturn (ty := .int) dX12_step_252 rfl rfl hf
    · rw [if_neg c125] at hf
      refine es_l (pc' := 219) (ls' := [(0, .ref (w.2.1 + 503)), (1, .int x1), (2, .int x2)]) (st' := [.ref (w.2.1 + 503)]) (fun _ _ k => e_aload_n dX12_step_218 0 rfl k) ?_
      refine es_get (v := .ref (w.2.1 + 531)) xc_12 dX12_step_219 fl_X12_148 (by decide) (by decide) (cel_503 _ _ _) rfl ?_
      refine es_l (pc' := 223) (ls' := [(0, .ref (w.2.1 + 503)), (1, .int x1), (2, .int x2)]) (st' := [.int x2, .ref (w.2.1 + 531)]) (fun _ _ k => e_iload_n dX12_step_222 2 rfl k) ?_
      obtain ⟨g127, hf⟩ := xg hf
      refine es_zald (v := .int (S.1 531 x2.toNatClampNeg)) dX12_step_223 (by decide) (cel_531 _ _ _) g127 rfl ?_
      refine es_br (c := (S.1 531 x2.toNatClampNeg) = 0) (tgt := 234) (pf := 227) (st' := []) (fun _ _ a b => e_if_eq dX12_step_224 rfl a b) (fun c128 => ?_) (fun c128 => ?_)
      · rw [if_pos c128] at hf
        exact t_X12_step_234 N (f_X12_step_212 N n) ih x1 x2 S r hf
      · rw [if_neg c128] at hf
        refine es_l (pc' := 228) (ls' := [(0, .ref (w.2.1 + 503)), (1, .int x1), (2, .int x2)]) (st' := [.ref (w.2.1 + 503)]) (fun _ _ k => e_aload_n dX12_step_227 0 rfl k) ?_
        refine es_get (v := .ref (w.2.1 + 511)) xc_12 dX12_step_228 fl_X12_45 (by decide) (by decide) (cel_503 _ _ _) rfl ?_
        refine es_l (pc' := 233) (ls' := [(0, .ref (w.2.1 + 503)), (1, .int x1), (2, .int x2)]) (st' := [.int 0, .int x2, .ref (w.2.1 + 511)]) (fun _ _ k => e_iload_n dX12_step_231 2 rfl (e_iconst (v := 0) dX12_step_232 (by decide) k)) ?_
        refine es_iast dX12_step_233 (by decide) (cel_511 _) g127 ?_
        exact t_X12_step_234 N (f_X12_step_212 N n) ih x1 x2 (sI S 511 x2.toNatClampNeg 0) r hf
def f_X12_step_317 (N : Nat)  (s0 : Int32) (S : xS) : Option xr :=
  some (.inl (some (.inl s0)), S)
set_option maxRecDepth 100000 in
set_option maxHeartbeats 4000000 in
theorem t_X12_step_317 {l : Launch} {w : xW} {g : Nat → xE} (N : Nat)   (s0 : Int32) (S : xS) (r : xr) (hf : f_X12_step_317 N  s0 S = some r) : ES l w g M_X12_step 317 [] [.int s0] S r := by
  unfold f_X12_step_317 at hf
  exact es_ireturn (ty := .int) dX12_step_317 rfl rfl hf
def f_X12_step_378 (N : Nat)  (x1 : Int32) (S : xS) : Option xr :=
  some (.inl (some (.inl (x1 + 3))), S)
set_option maxRecDepth 100000 in
set_option maxHeartbeats 4000000 in
theorem t_X12_step_378 {l : Launch} {w : xW} {g : Nat → xE} (N : Nat)   (x1 : Int32) (S : xS) (r : xr) (hf : f_X12_step_378 N  x1 S = some r) : ES l w g M_X12_step 378 [(1, .int x1)] [] S r := by
  unfold f_X12_step_378 at hf
  refine es_l (pc' := 381) (ls' := [(1, .int x1)]) (st' := [.int (x1 + 3)]) (fun _ _ k => e_iload_n dX12_step_378 0 rfl (e_iconst (v := 3) dX12_step_379 (by decide) (e_iadd dX12_step_380 k))) ?_
  exact es_ireturn (ty := .int) dX12_step_381 rfl rfl hf
def f_X12_step_418 (N : Nat)  (s0 : Int32) (S : xS) : Option xr :=
  some (.inl (some (.inl s0)), S)
set_option maxRecDepth 100000 in
set_option maxHeartbeats 4000000 in
theorem t_X12_step_418 {l : Launch} {w : xW} {g : Nat → xE} (N : Nat)   (s0 : Int32) (S : xS) (r : xr) (hf : f_X12_step_418 N  s0 S = some r) : ES l w g M_X12_step 418 [] [.int s0] S r := by
  unfold f_X12_step_418 at hf
  exact es_ireturn (ty := .int) dX12_step_418 rfl rfl hf
def f_X12_step (N : Nat) (x1 : Int32) (S : xS) : Option xr :=
  if xin x1 3000 then
  if (S.1 518 x1.toNatClampNeg : Int32).toInt ∈ [(100 : Int)] then
    xcI (f_X12_pay N S) (fun v132 S131 =>
    if v132 = 0 then
      f_X12_step_82 N ((-1)) S131
    else
      f_X12_step_82 N (x1 + 1) S131
    )
  else
  if (S.1 518 x1.toNatClampNeg : Int32).toInt ∈ [(101 : Int)] then
    if xin (x1 + 1) 3000 then
    if xin ((S.1 503 39) - 1) 8 then
    if xin (S.1 518 ((x1 + 1).toNatClampNeg)) 20 then
    some (.inl (some (.inl (x1 + 2))), sI (sI S 503 39 ((S.1 503 39) - 1)) 510 ((S.1 518 ((x1 + 1).toNatClampNeg)).toNatClampNeg) (S.1 525 (((S.1 503 39) - 1).toNatClampNeg)))
    else none
    else none
    else none
  else
  if (S.1 518 x1.toNatClampNeg : Int32).toInt ∈ [(102 : Int)] then
    if xin ((S.1 503 39) - 1) 8 then
    if xin ((S.1 503 47) - (S.1 503 47) / 64 * 64) 64 then
    some (.inl (some (.inl (x1 + 2))), sI (sI (sI S 503 39 ((S.1 503 39) - 1)) 532 (((S.1 503 47) - (S.1 503 47) / 64 * 64).toNatClampNeg) (S.1 525 (((S.1 503 39) - 1).toNatClampNeg))) 503 47 ((S.1 503 47) + 1))
    else none
    else none
  else
  if (S.1 518 x1.toNatClampNeg : Int32).toInt ∈ [(103 : Int)] then
    xcI (f_X12_insert N x1 (sI S 503 39 0)) (fun v143 S142 =>
    if v143 = 0 then
      f_X12_step_194 N ((-2)) S142
    else
      if xin (x1 + 2) 3000 then
      f_X12_step_194 N ((x1 + 3) + (S142.1 518 ((x1 + 2).toNatClampNeg))) S142
      else none
    )
  else
  if (S.1 518 x1.toNatClampNeg : Int32).toInt ∈ [(104 : Int)] then
    if xin (x1 + 1) 3000 then
    xcV (f_X12_choose N (S.1 518 ((x1 + 1).toNatClampNeg)) (x1 + 2) S) (fun S148 =>
    f_X12_step_212 N N x1 0 S148
    )
    else none
  else
  if (S.1 518 x1.toNatClampNeg : Int32).toInt ∈ [(105 : Int)] then
    xcI (f_X12_setAll N (x1 + 1) S) (fun v152 S151 =>
    some (.inl (some (.inl v152)), S151)
    )
  else
  if (S.1 518 x1.toNatClampNeg : Int32).toInt ∈ [(106 : Int)] then
    xcV (f_X12_beginEach N x1 S) (fun S154 =>
    if xin (x1 + 4) 3000 then
    some (.inl (some (.inl ((x1 + 5) + (S154.1 518 ((x1 + 4).toNatClampNeg))))), S154)
    else none
    )
  else
  if (S.1 518 x1.toNatClampNeg : Int32).toInt ∈ [(107 : Int)] then
    if xin (x1 + 1) 3000 then
    xcI (f_X12_nextEach N (S.1 518 ((x1 + 1).toNatClampNeg)) S) (fun v160 S159 =>
    if v160 = 0 then
      if xin (x1 + 3) 3000 then
      some (.inl (some (.inl (S159.1 518 ((x1 + 3).toNatClampNeg)))), S159)
      else none
    else
      xcI (f_X12_pay N S159) (fun v164 S163 =>
      if v164 = 0 then
        f_X12_step_317 N ((-1)) S163
      else
        f_X12_step_317 N (x1 + 4) S163
      )
    )
    else none
  else
  if (S.1 518 x1.toNatClampNeg : Int32).toInt ∈ [(108 : Int)] then
    xcV (f_X12_put N x1 S) (fun S167 =>
    some (.inl (some (.inl (x1 + 4))), S167)
    )
  else
  if (S.1 518 x1.toNatClampNeg : Int32).toInt ∈ [(109 : Int)] then
    if xin (x1 + 1) 3000 then
    xcI (f_X12_cursorThere N (S.1 518 ((x1 + 1).toNatClampNeg)) S) (fun v172 S171 =>
    if v172 = 0 then
      f_X12_step_378 N x1 S171
    else
      if xin (S171.1 518 ((x1 + 1).toNatClampNeg)) 12 then
      if xin ((64 * (S171.1 518 ((x1 + 1).toNatClampNeg))) + (S171.1 529 ((S171.1 518 ((x1 + 1).toNatClampNeg)).toNatClampNeg))) 768 then
      if xin (S171.1 526 (((64 * (S171.1 518 ((x1 + 1).toNatClampNeg))) + (S171.1 529 ((S171.1 518 ((x1 + 1).toNatClampNeg)).toNatClampNeg))).toNatClampNeg)) 64 then
      f_X12_step_378 N x1 (sI S171 511 ((S171.1 526 (((64 * (S171.1 518 ((x1 + 1).toNatClampNeg))) + (S171.1 529 ((S171.1 518 ((x1 + 1).toNatClampNeg)).toNatClampNeg))).toNatClampNeg)).toNatClampNeg) 0)
      else none
      else none
      else none
    )
    else none
  else
  if (S.1 518 x1.toNatClampNeg : Int32).toInt ∈ [(110 : Int)] then
    if xin ((S.1 503 39) - 1) 8 then
    if (S.1 525 (((S.1 503 39) - 1).toNatClampNeg)) = 0 then
      if xin (x1 + 1) 3000 then
      f_X12_step_418 N (S.1 518 ((x1 + 1).toNatClampNeg)) (sI S 503 39 ((S.1 503 39) - 1))
      else none
    else
      f_X12_step_418 N (x1 + 2) (sI S 503 39 ((S.1 503 39) - 1))
    else none
  else
  if (S.1 518 x1.toNatClampNeg : Int32).toInt ∈ [(111 : Int)] then
    if xin (x1 + 1) 3000 then
    some (.inl (some (.inl (S.1 518 ((x1 + 1).toNatClampNeg)))), S)
    else none
  else
  if xin (x1 + 1) 3000 then
  xcI (f_X12_eval N (x1 + 2) (S.1 518 ((x1 + 1).toNatClampNeg)) 0 S) (fun v185 S184 =>
  if xin (S.1 503 39) 8 then
  some (.inl (some (.inl ((x1 + 2) + (S184.1 518 ((x1 + 1).toNatClampNeg))))), sI (sI S184 525 ((S.1 503 39).toNatClampNeg) v185) 503 39 ((S184.1 503 39) + 1))
  else none
  )
  else none
  else none
set_option maxRecDepth 100000 in
set_option maxHeartbeats 4000000 in
theorem t_X12_step {l : Launch} {w : xW} {g : Nat → xE} (N : Nat) (x1 : Int32) (S : xS) (r : xr) (hf : f_X12_step N x1 S = some r) : ES l w g M_X12_step 0 (lv_args 0 [.ref (w.2.1 + 503), .int x1]) [] S r := by
  show ES l w g M_X12_step 0 [(0, .ref (w.2.1 + 503)), (1, .int x1)] [] S r
  unfold f_X12_step at hf
  refine es_l (pc' := 1) (ls' := [(0, .ref (w.2.1 + 503)), (1, .int x1)]) (st' := [.ref (w.2.1 + 503)]) (fun _ _ k => e_aload_n dX12_step_0 0 rfl k) ?_
  refine es_get (v := .ref (w.2.1 + 518)) xc_12 dX12_step_1 fl_X12_85 (by decide) (by decide) (cel_503 _ _ _) rfl ?_
  refine es_l (pc' := 5) (ls' := [(0, .ref (w.2.1 + 503)), (1, .int x1)]) (st' := [.int x1, .ref (w.2.1 + 518)]) (fun _ _ k => e_iload_n dX12_step_4 1 rfl k) ?_
  obtain ⟨g129, hf⟩ := xg hf
  refine es_iald (v := .int (S.1 518 x1.toNatClampNeg)) dX12_step_5 (by decide) (cel_518 _ _ _) g129 rfl ?_
  by_cases c130 : (S.1 518 x1.toNatClampNeg : Int32).toInt ∈ [(100 : Int)]
  · rw [if_pos c130] at hf
    refine es_l (pc' := 68) (ls' := [(0, .ref (w.2.1 + 503)), (1, .int x1)]) (st' := []) (fun _ _ k => e_tabC (off := 62) dX12_step_6 c130 (by decide) rfl k) ?_
    refine es_l (pc' := 69) (ls' := [(0, .ref (w.2.1 + 503)), (1, .int x1)]) (st' := [.ref (w.2.1 + 503)]) (fun _ _ k => e_aload_n dX12_step_68 0 rfl k) ?_
    refine es_callVI (as := []) (rest := []) hf xc_12 dX12_step_69 cs_X12_step_X12_pay ml_X12_396 im_X12_pay se_X12_pay rfl rfl (Nat.le_of_ble_eq_true rfl) (Nat.le_of_ble_eq_true rfl) (by decide) rfl (cel_503 _ _ _) (fun _ e => t_X12_pay N  S _ e) (by decide) (fun v132 S131 hf => ?_)
    refine es_br (c := v132 = 0) (tgt := 81) (pf := 75) (st' := []) (fun _ _ a b => e_if_eq dX12_step_72 rfl a b) (fun c133 => ?_) (fun c133 => ?_)
    · rw [if_pos c133] at hf
      refine es_l (pc' := 82) (ls' := [(0, .ref (w.2.1 + 503)), (1, .int x1)]) (st' := [.int ((-1))]) (fun _ _ k => e_iconst (v := (-1)) dX12_step_81 (by decide) k) ?_
      refine es_sub [] rfl ?_
      exact t_X12_step_82 N ((-1)) S131 r hf
    · rw [if_neg c133] at hf
      refine es_l (pc' := 82) (ls' := [(0, .ref (w.2.1 + 503)), (1, .int x1)]) (st' := [.int (x1 + 1)]) (fun _ _ k => e_iload_n dX12_step_75 1 rfl (e_iconst (v := 1) dX12_step_76 (by decide) (e_iadd dX12_step_77 (e_goto (tgt := 82) dX12_step_78 rfl k)))) ?_
      refine es_sub [] rfl ?_
      exact t_X12_step_82 N (x1 + 1) S131 r hf
  rw [if_neg c130] at hf
  by_cases c134 : (S.1 518 x1.toNatClampNeg : Int32).toInt ∈ [(101 : Int)]
  · rw [if_pos c134] at hf
    refine es_l (pc' := 83) (ls' := [(0, .ref (w.2.1 + 503)), (1, .int x1)]) (st' := []) (fun _ _ k => e_tabC (off := 77) dX12_step_6 c134 (by decide) rfl k) ?_
    refine es_l (pc' := 85) (ls' := [(0, .ref (w.2.1 + 503)), (1, .int x1)]) (st' := [.ref (w.2.1 + 503), .ref (w.2.1 + 503)]) (fun _ _ k => e_aload_n dX12_step_83 0 rfl (e_dup dX12_step_84 rfl k)) ?_
    refine es_get (v := .int (S.1 503 39)) xc_12 dX12_step_85 fl_X12_130 (by decide) (by decide) (cel_503 _ _ _) rfl ?_
    refine es_l (pc' := 90) (ls' := [(0, .ref (w.2.1 + 503)), (1, .int x1)]) (st' := [.int ((S.1 503 39) - 1), .ref (w.2.1 + 503)]) (fun _ _ k => e_iconst (v := 1) dX12_step_88 (by decide) (e_isub dX12_step_89 k)) ?_
    refine es_put xc_12 dX12_step_90 fl_X12_130 (by decide) (by decide) (by decide) (cel_503 _ _ _) rfl rfl rfl rfl ?_
    refine es_l (pc' := 94) (ls' := [(0, .ref (w.2.1 + 503)), (1, .int x1)]) (st' := [.ref (w.2.1 + 503)]) (fun _ _ k => e_aload_n dX12_step_93 0 rfl k) ?_
    refine es_get (v := .ref (w.2.1 + 510)) xc_12 dX12_step_94 fl_X12_42 (by decide) (by decide) (cel_503 _ _ _) rfl ?_
    refine es_l (pc' := 98) (ls' := [(0, .ref (w.2.1 + 503)), (1, .int x1)]) (st' := [.ref (w.2.1 + 503), .ref (w.2.1 + 510)]) (fun _ _ k => e_aload_n dX12_step_97 0 rfl k) ?_
    refine es_get (v := .ref (w.2.1 + 518)) xc_12 dX12_step_98 fl_X12_85 (by decide) (by decide) (cel_503 _ _ _) rfl ?_
    refine es_l (pc' := 104) (ls' := [(0, .ref (w.2.1 + 503)), (1, .int x1)]) (st' := [.int (x1 + 1), .ref (w.2.1 + 518), .ref (w.2.1 + 510)]) (fun _ _ k => e_iload_n dX12_step_101 1 rfl (e_iconst (v := 1) dX12_step_102 (by decide) (e_iadd dX12_step_103 k))) ?_
    obtain ⟨g135, hf⟩ := xg hf
    refine es_iald (v := .int (S.1 518 ((x1 + 1).toNatClampNeg))) dX12_step_104 (by decide) (cel_518 _ _ _) g135 rfl ?_
    refine es_l (pc' := 106) (ls' := [(0, .ref (w.2.1 + 503)), (1, .int x1)]) (st' := [.ref (w.2.1 + 503), .int (S.1 518 ((x1 + 1).toNatClampNeg)), .ref (w.2.1 + 510)]) (fun _ _ k => e_aload_n dX12_step_105 0 rfl k) ?_
    refine es_get (v := .ref (w.2.1 + 525)) xc_12 dX12_step_106 fl_X12_127 (by decide) (by decide) (cel_503 _ _ _) rfl ?_
    refine es_l (pc' := 110) (ls' := [(0, .ref (w.2.1 + 503)), (1, .int x1)]) (st' := [.ref (w.2.1 + 503), .ref (w.2.1 + 525), .int (S.1 518 ((x1 + 1).toNatClampNeg)), .ref (w.2.1 + 510)]) (fun _ _ k => e_aload_n dX12_step_109 0 rfl k) ?_
    refine es_get (v := .int ((S.1 503 39) - 1)) xc_12 dX12_step_110 fl_X12_130 (by decide) (by decide) (cel_503 _ _ _) rfl ?_
    obtain ⟨g136, hf⟩ := xg hf
    refine es_iald (v := .int (S.1 525 (((S.1 503 39) - 1).toNatClampNeg))) dX12_step_113 (by decide) (cel_525 _ _ _) g136 rfl ?_
    obtain ⟨g137, hf⟩ := xg hf
    refine es_iast dX12_step_114 (by decide) (cel_510 _) g137 ?_
    refine es_l (pc' := 118) (ls' := [(0, .ref (w.2.1 + 503)), (1, .int x1)]) (st' := [.int (x1 + 2)]) (fun _ _ k => e_iload_n dX12_step_115 1 rfl (e_iconst (v := 2) dX12_step_116 (by decide) (e_iadd dX12_step_117 k))) ?_
    exact es_ireturn (ty := .int) dX12_step_118 rfl rfl hf
  rw [if_neg c134] at hf
  by_cases c138 : (S.1 518 x1.toNatClampNeg : Int32).toInt ∈ [(102 : Int)]
  · rw [if_pos c138] at hf
    refine es_l (pc' := 119) (ls' := [(0, .ref (w.2.1 + 503)), (1, .int x1)]) (st' := []) (fun _ _ k => e_tabC (off := 113) dX12_step_6 c138 (by decide) rfl k) ?_
    refine es_l (pc' := 121) (ls' := [(0, .ref (w.2.1 + 503)), (1, .int x1)]) (st' := [.ref (w.2.1 + 503), .ref (w.2.1 + 503)]) (fun _ _ k => e_aload_n dX12_step_119 0 rfl (e_dup dX12_step_120 rfl k)) ?_
    refine es_get (v := .int (S.1 503 39)) xc_12 dX12_step_121 fl_X12_130 (by decide) (by decide) (cel_503 _ _ _) rfl ?_
    refine es_l (pc' := 126) (ls' := [(0, .ref (w.2.1 + 503)), (1, .int x1)]) (st' := [.int ((S.1 503 39) - 1), .ref (w.2.1 + 503)]) (fun _ _ k => e_iconst (v := 1) dX12_step_124 (by decide) (e_isub dX12_step_125 k)) ?_
    refine es_put xc_12 dX12_step_126 fl_X12_130 (by decide) (by decide) (by decide) (cel_503 _ _ _) rfl rfl rfl rfl ?_
    refine es_l (pc' := 130) (ls' := [(0, .ref (w.2.1 + 503)), (1, .int x1)]) (st' := [.ref (w.2.1 + 503)]) (fun _ _ k => e_aload_n dX12_step_129 0 rfl k) ?_
    refine es_get (v := .ref (w.2.1 + 532)) xc_12 dX12_step_130 fl_X12_152 (by decide) (by decide) (cel_503 _ _ _) rfl ?_
    refine es_l (pc' := 134) (ls' := [(0, .ref (w.2.1 + 503)), (1, .int x1)]) (st' := [.ref (w.2.1 + 503), .ref (w.2.1 + 532)]) (fun _ _ k => e_aload_n dX12_step_133 0 rfl k) ?_
    refine es_get (v := .int (S.1 503 47)) xc_12 dX12_step_134 fl_X12_155 (by decide) (by decide) (cel_503 _ _ _) rfl ?_
    refine es_l (pc' := 141) (ls' := [(0, .ref (w.2.1 + 503)), (1, .int x1)]) (st' := [.ref (w.2.1 + 503), .int ((S.1 503 47) - (S.1 503 47) / 64 * 64), .ref (w.2.1 + 532)]) (fun _ _ k => e_bipush (v := 64) dX12_step_137 (by decide) (e_irem dX12_step_139 (by decide) (e_aload_n dX12_step_140 0 rfl k))) ?_
    refine es_get (v := .ref (w.2.1 + 525)) xc_12 dX12_step_141 fl_X12_127 (by decide) (by decide) (cel_503 _ _ _) rfl ?_
    refine es_l (pc' := 145) (ls' := [(0, .ref (w.2.1 + 503)), (1, .int x1)]) (st' := [.ref (w.2.1 + 503), .ref (w.2.1 + 525), .int ((S.1 503 47) - (S.1 503 47) / 64 * 64), .ref (w.2.1 + 532)]) (fun _ _ k => e_aload_n dX12_step_144 0 rfl k) ?_
    refine es_get (v := .int ((S.1 503 39) - 1)) xc_12 dX12_step_145 fl_X12_130 (by decide) (by decide) (cel_503 _ _ _) rfl ?_
    obtain ⟨g139, hf⟩ := xg hf
    refine es_iald (v := .int (S.1 525 (((S.1 503 39) - 1).toNatClampNeg))) dX12_step_148 (by decide) (cel_525 _ _ _) g139 rfl ?_
    obtain ⟨g140, hf⟩ := xg hf
    refine es_iast dX12_step_149 (by decide) (cel_532 _) g140 ?_
    refine es_l (pc' := 152) (ls' := [(0, .ref (w.2.1 + 503)), (1, .int x1)]) (st' := [.ref (w.2.1 + 503), .ref (w.2.1 + 503)]) (fun _ _ k => e_aload_n dX12_step_150 0 rfl (e_dup dX12_step_151 rfl k)) ?_
    refine es_get (v := .int (S.1 503 47)) xc_12 dX12_step_152 fl_X12_155 (by decide) (by decide) (cel_503 _ _ _) rfl ?_
    refine es_l (pc' := 157) (ls' := [(0, .ref (w.2.1 + 503)), (1, .int x1)]) (st' := [.int ((S.1 503 47) + 1), .ref (w.2.1 + 503)]) (fun _ _ k => e_iconst (v := 1) dX12_step_155 (by decide) (e_iadd dX12_step_156 k)) ?_
    refine es_put xc_12 dX12_step_157 fl_X12_155 (by decide) (by decide) (by decide) (cel_503 _ _ _) rfl rfl rfl rfl ?_
    refine es_l (pc' := 163) (ls' := [(0, .ref (w.2.1 + 503)), (1, .int x1)]) (st' := [.int (x1 + 2)]) (fun _ _ k => e_iload_n dX12_step_160 1 rfl (e_iconst (v := 2) dX12_step_161 (by decide) (e_iadd dX12_step_162 k))) ?_
    exact es_ireturn (ty := .int) dX12_step_163 rfl rfl hf
  rw [if_neg c138] at hf
  by_cases c141 : (S.1 518 x1.toNatClampNeg : Int32).toInt ∈ [(103 : Int)]
  · rw [if_pos c141] at hf
    refine es_l (pc' := 164) (ls' := [(0, .ref (w.2.1 + 503)), (1, .int x1)]) (st' := []) (fun _ _ k => e_tabC (off := 158) dX12_step_6 c141 (by decide) rfl k) ?_
    refine es_l (pc' := 166) (ls' := [(0, .ref (w.2.1 + 503)), (1, .int x1)]) (st' := [.int 0, .ref (w.2.1 + 503)]) (fun _ _ k => e_aload_n dX12_step_164 0 rfl (e_iconst (v := 0) dX12_step_165 (by decide) k)) ?_
    refine es_put xc_12 dX12_step_166 fl_X12_130 (by decide) (by decide) (by decide) (cel_503 _ _ _) rfl rfl rfl rfl ?_
    refine es_l (pc' := 171) (ls' := [(0, .ref (w.2.1 + 503)), (1, .int x1)]) (st' := [.int x1, .ref (w.2.1 + 503)]) (fun _ _ k => e_aload_n dX12_step_169 0 rfl (e_iload_n dX12_step_170 1 rfl k)) ?_
    refine es_callVI (as := [.int x1]) (rest := []) hf xc_12 dX12_step_171 cs_X12_step_X12_insert ml_X12_399 im_X12_insert se_X12_insert rfl rfl (Nat.le_of_ble_eq_true rfl) (Nat.le_of_ble_eq_true rfl) (by decide) rfl (cel_503 _ _ _) (fun _ e => t_X12_insert N x1 (sI S 503 39 0) _ e) (by decide) (fun v143 S142 hf => ?_)
    refine es_br (c := v143 = 0) (tgt := 192) (pf := 177) (st' := []) (fun _ _ a b => e_if_eq dX12_step_174 rfl a b) (fun c144 => ?_) (fun c144 => ?_)
    · rw [if_pos c144] at hf
      refine es_l (pc' := 194) (ls' := [(0, .ref (w.2.1 + 503)), (1, .int x1)]) (st' := [.int ((-2))]) (fun _ _ k => e_bipush (v := (-2)) dX12_step_192 (by decide) k) ?_
      refine es_sub [] rfl ?_
      exact t_X12_step_194 N ((-2)) S142 r hf
    · rw [if_neg c144] at hf
      refine es_l (pc' := 181) (ls' := [(0, .ref (w.2.1 + 503)), (1, .int x1)]) (st' := [.ref (w.2.1 + 503), .int (x1 + 3)]) (fun _ _ k => e_iload_n dX12_step_177 1 rfl (e_iconst (v := 3) dX12_step_178 (by decide) (e_iadd dX12_step_179 (e_aload_n dX12_step_180 0 rfl k)))) ?_
      refine es_get (v := .ref (w.2.1 + 518)) xc_12 dX12_step_181 fl_X12_85 (by decide) (by decide) (cel_503 _ _ _) rfl ?_
      refine es_l (pc' := 187) (ls' := [(0, .ref (w.2.1 + 503)), (1, .int x1)]) (st' := [.int (x1 + 2), .ref (w.2.1 + 518), .int (x1 + 3)]) (fun _ _ k => e_iload_n dX12_step_184 1 rfl (e_iconst (v := 2) dX12_step_185 (by decide) (e_iadd dX12_step_186 k))) ?_
      obtain ⟨g145, hf⟩ := xg hf
      refine es_iald (v := .int (S142.1 518 ((x1 + 2).toNatClampNeg))) dX12_step_187 (by decide) (cel_518 _ _ _) g145 rfl ?_
      refine es_l (pc' := 194) (ls' := [(0, .ref (w.2.1 + 503)), (1, .int x1)]) (st' := [.int ((x1 + 3) + (S142.1 518 ((x1 + 2).toNatClampNeg)))]) (fun _ _ k => e_iadd dX12_step_188 (e_goto (tgt := 194) dX12_step_189 rfl k)) ?_
      refine es_sub [] rfl ?_
      exact t_X12_step_194 N ((x1 + 3) + (S142.1 518 ((x1 + 2).toNatClampNeg))) S142 r hf
  rw [if_neg c141] at hf
  by_cases c146 : (S.1 518 x1.toNatClampNeg : Int32).toInt ∈ [(104 : Int)]
  · rw [if_pos c146] at hf
    refine es_l (pc' := 195) (ls' := [(0, .ref (w.2.1 + 503)), (1, .int x1)]) (st' := []) (fun _ _ k => e_tabC (off := 189) dX12_step_6 c146 (by decide) rfl k) ?_
    refine es_l (pc' := 197) (ls' := [(0, .ref (w.2.1 + 503)), (1, .int x1)]) (st' := [.ref (w.2.1 + 503), .ref (w.2.1 + 503)]) (fun _ _ k => e_aload_n dX12_step_195 0 rfl (e_aload_n dX12_step_196 0 rfl k)) ?_
    refine es_get (v := .ref (w.2.1 + 518)) xc_12 dX12_step_197 fl_X12_85 (by decide) (by decide) (cel_503 _ _ _) rfl ?_
    refine es_l (pc' := 203) (ls' := [(0, .ref (w.2.1 + 503)), (1, .int x1)]) (st' := [.int (x1 + 1), .ref (w.2.1 + 518), .ref (w.2.1 + 503)]) (fun _ _ k => e_iload_n dX12_step_200 1 rfl (e_iconst (v := 1) dX12_step_201 (by decide) (e_iadd dX12_step_202 k))) ?_
    obtain ⟨g147, hf⟩ := xg hf
    refine es_iald (v := .int (S.1 518 ((x1 + 1).toNatClampNeg))) dX12_step_203 (by decide) (cel_518 _ _ _) g147 rfl ?_
    refine es_l (pc' := 207) (ls' := [(0, .ref (w.2.1 + 503)), (1, .int x1)]) (st' := [.int (x1 + 2), .int (S.1 518 ((x1 + 1).toNatClampNeg)), .ref (w.2.1 + 503)]) (fun _ _ k => e_iload_n dX12_step_204 1 rfl (e_iconst (v := 2) dX12_step_205 (by decide) (e_iadd dX12_step_206 k))) ?_
    refine es_callVV (as := [.int (S.1 518 ((x1 + 1).toNatClampNeg)), .int (x1 + 2)]) (rest := []) hf xc_12 dX12_step_207 cs_X12_step_X12_choose ml_X12_393 im_X12_choose se_X12_choose rfl rfl (Nat.le_of_ble_eq_true rfl) (Nat.le_of_ble_eq_true rfl) (by decide) rfl (cel_503 _ _ _) (fun _ e => t_X12_choose N (S.1 518 ((x1 + 1).toNatClampNeg)) (x1 + 2) S _ e) (by decide) (fun S148 hf => ?_)
    refine es_l (pc' := 212) (ls' := [(2, .int 0), (0, .ref (w.2.1 + 503)), (1, .int x1)]) (st' := []) (fun _ _ k => e_iconst (v := 0) dX12_step_210 (by decide) (e_istore_n (ls' := [(2, .int 0), (0, .ref (w.2.1 + 503)), (1, .int x1)]) dX12_step_211 (by decide) rfl k)) ?_
    refine es_sub [1, 2, 0] rfl ?_
    exact t_X12_step_212 N N x1 0 S148 r hf
  rw [if_neg c146] at hf
  by_cases c150 : (S.1 518 x1.toNatClampNeg : Int32).toInt ∈ [(105 : Int)]
  · rw [if_pos c150] at hf
    refine es_l (pc' := 253) (ls' := [(0, .ref (w.2.1 + 503)), (1, .int x1)]) (st' := []) (fun _ _ k => e_tabC (off := 247) dX12_step_6 c150 (by decide) rfl k) ?_
    refine es_l (pc' := 257) (ls' := [(0, .ref (w.2.1 + 503)), (1, .int x1)]) (st' := [.int (x1 + 1), .ref (w.2.1 + 503)]) (fun _ _ k => e_aload_n dX12_step_253 0 rfl (e_iload_n dX12_step_254 1 rfl (e_iconst (v := 1) dX12_step_255 (by decide) (e_iadd dX12_step_256 k)))) ?_
    refine es_callVI (as := [.int (x1 + 1)]) (rest := []) hf xc_12 dX12_step_257 cs_X12_step_X12_setAll ml_X12_402 im_X12_setAll se_X12_setAll rfl rfl (Nat.le_of_ble_eq_true rfl) (Nat.le_of_ble_eq_true rfl) (by decide) rfl (cel_503 _ _ _) (fun _ e => t_X12_setAll N (x1 + 1) S _ e) (by decide) (fun v152 S151 hf => ?_)
    exact es_ireturn (ty := .int) dX12_step_260 rfl rfl hf
  rw [if_neg c150] at hf
  by_cases c153 : (S.1 518 x1.toNatClampNeg : Int32).toInt ∈ [(106 : Int)]
  · rw [if_pos c153] at hf
    refine es_l (pc' := 261) (ls' := [(0, .ref (w.2.1 + 503)), (1, .int x1)]) (st' := []) (fun _ _ k => e_tabC (off := 255) dX12_step_6 c153 (by decide) rfl k) ?_
    refine es_l (pc' := 263) (ls' := [(0, .ref (w.2.1 + 503)), (1, .int x1)]) (st' := [.int x1, .ref (w.2.1 + 503)]) (fun _ _ k => e_aload_n dX12_step_261 0 rfl (e_iload_n dX12_step_262 1 rfl k)) ?_
    refine es_callVV (as := [.int x1]) (rest := []) hf xc_12 dX12_step_263 cs_X12_step_X12_beginEach ml_X12_405 im_X12_beginEach se_X12_beginEach rfl rfl (Nat.le_of_ble_eq_true rfl) (Nat.le_of_ble_eq_true rfl) (by decide) rfl (cel_503 _ _ _) (fun _ e => t_X12_beginEach N x1 S _ e) (by decide) (fun S154 hf => ?_)
    refine es_l (pc' := 270) (ls' := [(0, .ref (w.2.1 + 503)), (1, .int x1)]) (st' := [.ref (w.2.1 + 503), .int (x1 + 5)]) (fun _ _ k => e_iload_n dX12_step_266 1 rfl (e_iconst (v := 5) dX12_step_267 (by decide) (e_iadd dX12_step_268 (e_aload_n dX12_step_269 0 rfl k)))) ?_
    refine es_get (v := .ref (w.2.1 + 518)) xc_12 dX12_step_270 fl_X12_85 (by decide) (by decide) (cel_503 _ _ _) rfl ?_
    refine es_l (pc' := 276) (ls' := [(0, .ref (w.2.1 + 503)), (1, .int x1)]) (st' := [.int (x1 + 4), .ref (w.2.1 + 518), .int (x1 + 5)]) (fun _ _ k => e_iload_n dX12_step_273 1 rfl (e_iconst (v := 4) dX12_step_274 (by decide) (e_iadd dX12_step_275 k))) ?_
    obtain ⟨g156, hf⟩ := xg hf
    refine es_iald (v := .int (S154.1 518 ((x1 + 4).toNatClampNeg))) dX12_step_276 (by decide) (cel_518 _ _ _) g156 rfl ?_
    refine es_l (pc' := 278) (ls' := [(0, .ref (w.2.1 + 503)), (1, .int x1)]) (st' := [.int ((x1 + 5) + (S154.1 518 ((x1 + 4).toNatClampNeg)))]) (fun _ _ k => e_iadd dX12_step_277 k) ?_
    exact es_ireturn (ty := .int) dX12_step_278 rfl rfl hf
  rw [if_neg c153] at hf
  by_cases c157 : (S.1 518 x1.toNatClampNeg : Int32).toInt ∈ [(107 : Int)]
  · rw [if_pos c157] at hf
    refine es_l (pc' := 279) (ls' := [(0, .ref (w.2.1 + 503)), (1, .int x1)]) (st' := []) (fun _ _ k => e_tabC (off := 273) dX12_step_6 c157 (by decide) rfl k) ?_
    refine es_l (pc' := 281) (ls' := [(0, .ref (w.2.1 + 503)), (1, .int x1)]) (st' := [.ref (w.2.1 + 503), .ref (w.2.1 + 503)]) (fun _ _ k => e_aload_n dX12_step_279 0 rfl (e_aload_n dX12_step_280 0 rfl k)) ?_
    refine es_get (v := .ref (w.2.1 + 518)) xc_12 dX12_step_281 fl_X12_85 (by decide) (by decide) (cel_503 _ _ _) rfl ?_
    refine es_l (pc' := 287) (ls' := [(0, .ref (w.2.1 + 503)), (1, .int x1)]) (st' := [.int (x1 + 1), .ref (w.2.1 + 518), .ref (w.2.1 + 503)]) (fun _ _ k => e_iload_n dX12_step_284 1 rfl (e_iconst (v := 1) dX12_step_285 (by decide) (e_iadd dX12_step_286 k))) ?_
    obtain ⟨g158, hf⟩ := xg hf
    refine es_iald (v := .int (S.1 518 ((x1 + 1).toNatClampNeg))) dX12_step_287 (by decide) (cel_518 _ _ _) g158 rfl ?_
    refine es_callVI (as := [.int (S.1 518 ((x1 + 1).toNatClampNeg))]) (rest := []) hf xc_12 dX12_step_288 cs_X12_step_X12_nextEach ml_X12_408 im_X12_nextEach se_X12_nextEach rfl rfl (Nat.le_of_ble_eq_true rfl) (Nat.le_of_ble_eq_true rfl) (by decide) rfl (cel_503 _ _ _) (fun _ e => t_X12_nextEach N (S.1 518 ((x1 + 1).toNatClampNeg)) S _ e) (by decide) (fun v160 S159 hf => ?_)
    refine es_br (c := v160 = 0) (tgt := 294) (pf := 303) (st' := []) (fun _ _ a b => e_if_ne dX12_step_291 rfl b a) (fun c161 => ?_) (fun c161 => ?_)
    · rw [if_pos c161] at hf
      refine es_l (pc' := 295) (ls' := [(0, .ref (w.2.1 + 503)), (1, .int x1)]) (st' := [.ref (w.2.1 + 503)]) (fun _ _ k => e_aload_n dX12_step_294 0 rfl k) ?_
      refine es_get (v := .ref (w.2.1 + 518)) xc_12 dX12_step_295 fl_X12_85 (by decide) (by decide) (cel_503 _ _ _) rfl ?_
      refine es_l (pc' := 301) (ls' := [(0, .ref (w.2.1 + 503)), (1, .int x1)]) (st' := [.int (x1 + 3), .ref (w.2.1 + 518)]) (fun _ _ k => e_iload_n dX12_step_298 1 rfl (e_iconst (v := 3) dX12_step_299 (by decide) (e_iadd dX12_step_300 k))) ?_
      obtain ⟨g162, hf⟩ := xg hf
      refine es_iald (v := .int (S159.1 518 ((x1 + 3).toNatClampNeg))) dX12_step_301 (by decide) (cel_518 _ _ _) g162 rfl ?_
      exact es_ireturn (ty := .int) dX12_step_302 rfl rfl hf
    · rw [if_neg c161] at hf
      refine es_l (pc' := 304) (ls' := [(0, .ref (w.2.1 + 503)), (1, .int x1)]) (st' := [.ref (w.2.1 + 503)]) (fun _ _ k => e_aload_n dX12_step_303 0 rfl k) ?_
      refine es_callVI (as := []) (rest := []) hf xc_12 dX12_step_304 cs_X12_step_X12_pay ml_X12_396 im_X12_pay se_X12_pay rfl rfl (Nat.le_of_ble_eq_true rfl) (Nat.le_of_ble_eq_true rfl) (by decide) rfl (cel_503 _ _ _) (fun _ e => t_X12_pay N  S159 _ e) (by decide) (fun v164 S163 hf => ?_)
      refine es_br (c := v164 = 0) (tgt := 316) (pf := 310) (st' := []) (fun _ _ a b => e_if_eq dX12_step_307 rfl a b) (fun c165 => ?_) (fun c165 => ?_)
      · rw [if_pos c165] at hf
        refine es_l (pc' := 317) (ls' := [(0, .ref (w.2.1 + 503)), (1, .int x1)]) (st' := [.int ((-1))]) (fun _ _ k => e_iconst (v := (-1)) dX12_step_316 (by decide) k) ?_
        refine es_sub [] rfl ?_
        exact t_X12_step_317 N ((-1)) S163 r hf
      · rw [if_neg c165] at hf
        refine es_l (pc' := 317) (ls' := [(0, .ref (w.2.1 + 503)), (1, .int x1)]) (st' := [.int (x1 + 4)]) (fun _ _ k => e_iload_n dX12_step_310 1 rfl (e_iconst (v := 4) dX12_step_311 (by decide) (e_iadd dX12_step_312 (e_goto (tgt := 317) dX12_step_313 rfl k)))) ?_
        refine es_sub [] rfl ?_
        exact t_X12_step_317 N (x1 + 4) S163 r hf
  rw [if_neg c157] at hf
  by_cases c166 : (S.1 518 x1.toNatClampNeg : Int32).toInt ∈ [(108 : Int)]
  · rw [if_pos c166] at hf
    refine es_l (pc' := 318) (ls' := [(0, .ref (w.2.1 + 503)), (1, .int x1)]) (st' := []) (fun _ _ k => e_tabC (off := 312) dX12_step_6 c166 (by decide) rfl k) ?_
    refine es_l (pc' := 320) (ls' := [(0, .ref (w.2.1 + 503)), (1, .int x1)]) (st' := [.int x1, .ref (w.2.1 + 503)]) (fun _ _ k => e_aload_n dX12_step_318 0 rfl (e_iload_n dX12_step_319 1 rfl k)) ?_
    refine es_callVV (as := [.int x1]) (rest := []) hf xc_12 dX12_step_320 cs_X12_step_X12_put ml_X12_411 im_X12_put se_X12_put rfl rfl (Nat.le_of_ble_eq_true rfl) (Nat.le_of_ble_eq_true rfl) (by decide) rfl (cel_503 _ _ _) (fun _ e => t_X12_put N x1 S _ e) (by decide) (fun S167 hf => ?_)
    refine es_l (pc' := 326) (ls' := [(0, .ref (w.2.1 + 503)), (1, .int x1)]) (st' := [.int (x1 + 4)]) (fun _ _ k => e_iload_n dX12_step_323 1 rfl (e_iconst (v := 4) dX12_step_324 (by decide) (e_iadd dX12_step_325 k))) ?_
    exact es_ireturn (ty := .int) dX12_step_326 rfl rfl hf
  rw [if_neg c166] at hf
  by_cases c169 : (S.1 518 x1.toNatClampNeg : Int32).toInt ∈ [(109 : Int)]
  · rw [if_pos c169] at hf
    refine es_l (pc' := 327) (ls' := [(0, .ref (w.2.1 + 503)), (1, .int x1)]) (st' := []) (fun _ _ k => e_tabC (off := 321) dX12_step_6 c169 (by decide) rfl k) ?_
    refine es_l (pc' := 329) (ls' := [(0, .ref (w.2.1 + 503)), (1, .int x1)]) (st' := [.ref (w.2.1 + 503), .ref (w.2.1 + 503)]) (fun _ _ k => e_aload_n dX12_step_327 0 rfl (e_aload_n dX12_step_328 0 rfl k)) ?_
    refine es_get (v := .ref (w.2.1 + 518)) xc_12 dX12_step_329 fl_X12_85 (by decide) (by decide) (cel_503 _ _ _) rfl ?_
    refine es_l (pc' := 335) (ls' := [(0, .ref (w.2.1 + 503)), (1, .int x1)]) (st' := [.int (x1 + 1), .ref (w.2.1 + 518), .ref (w.2.1 + 503)]) (fun _ _ k => e_iload_n dX12_step_332 1 rfl (e_iconst (v := 1) dX12_step_333 (by decide) (e_iadd dX12_step_334 k))) ?_
    obtain ⟨g170, hf⟩ := xg hf
    refine es_iald (v := .int (S.1 518 ((x1 + 1).toNatClampNeg))) dX12_step_335 (by decide) (cel_518 _ _ _) g170 rfl ?_
    refine es_callVI (as := [.int (S.1 518 ((x1 + 1).toNatClampNeg))]) (rest := []) hf xc_12 dX12_step_336 cs_X12_step_X12_cursorThere ml_X12_370 im_X12_cursorThere se_X12_cursorThere rfl rfl (Nat.le_of_ble_eq_true rfl) (Nat.le_of_ble_eq_true rfl) (by decide) rfl (cel_503 _ _ _) (fun _ e => t_X12_cursorThere N (S.1 518 ((x1 + 1).toNatClampNeg)) S _ e) (by decide) (fun v172 S171 hf => ?_)
    refine es_br (c := v172 = 0) (tgt := 378) (pf := 342) (st' := []) (fun _ _ a b => e_if_eq dX12_step_339 rfl a b) (fun c173 => ?_) (fun c173 => ?_)
    · rw [if_pos c173] at hf
      refine es_sub [1] rfl ?_
      exact t_X12_step_378 N x1 S171 r hf
    · rw [if_neg c173] at hf
      refine es_l (pc' := 343) (ls' := [(0, .ref (w.2.1 + 503)), (1, .int x1)]) (st' := [.ref (w.2.1 + 503)]) (fun _ _ k => e_aload_n dX12_step_342 0 rfl k) ?_
      refine es_get (v := .ref (w.2.1 + 511)) xc_12 dX12_step_343 fl_X12_45 (by decide) (by decide) (cel_503 _ _ _) rfl ?_
      refine es_l (pc' := 347) (ls' := [(0, .ref (w.2.1 + 503)), (1, .int x1)]) (st' := [.ref (w.2.1 + 503), .ref (w.2.1 + 511)]) (fun _ _ k => e_aload_n dX12_step_346 0 rfl k) ?_
      refine es_get (v := .ref (w.2.1 + 526)) xc_12 dX12_step_347 fl_X12_133 (by decide) (by decide) (cel_503 _ _ _) rfl ?_
      refine es_l (pc' := 353) (ls' := [(0, .ref (w.2.1 + 503)), (1, .int x1)]) (st' := [.ref (w.2.1 + 503), .int 64, .ref (w.2.1 + 526), .ref (w.2.1 + 511)]) (fun _ _ k => e_bipush (v := 64) dX12_step_350 (by decide) (e_aload_n dX12_step_352 0 rfl k)) ?_
      refine es_get (v := .ref (w.2.1 + 518)) xc_12 dX12_step_353 fl_X12_85 (by decide) (by decide) (cel_503 _ _ _) rfl ?_
      refine es_l (pc' := 359) (ls' := [(0, .ref (w.2.1 + 503)), (1, .int x1)]) (st' := [.int (x1 + 1), .ref (w.2.1 + 518), .int 64, .ref (w.2.1 + 526), .ref (w.2.1 + 511)]) (fun _ _ k => e_iload_n dX12_step_356 1 rfl (e_iconst (v := 1) dX12_step_357 (by decide) (e_iadd dX12_step_358 k))) ?_
      refine es_iald (v := .int (S171.1 518 ((x1 + 1).toNatClampNeg))) dX12_step_359 (by decide) (cel_518 _ _ _) g170 rfl ?_
      refine es_l (pc' := 362) (ls' := [(0, .ref (w.2.1 + 503)), (1, .int x1)]) (st' := [.ref (w.2.1 + 503), .int (64 * (S171.1 518 ((x1 + 1).toNatClampNeg))), .ref (w.2.1 + 526), .ref (w.2.1 + 511)]) (fun _ _ k => e_imul dX12_step_360 (e_aload_n dX12_step_361 0 rfl k)) ?_
      refine es_get (v := .ref (w.2.1 + 529)) xc_12 dX12_step_362 fl_X12_142 (by decide) (by decide) (cel_503 _ _ _) rfl ?_
      refine es_l (pc' := 366) (ls' := [(0, .ref (w.2.1 + 503)), (1, .int x1)]) (st' := [.ref (w.2.1 + 503), .ref (w.2.1 + 529), .int (64 * (S171.1 518 ((x1 + 1).toNatClampNeg))), .ref (w.2.1 + 526), .ref (w.2.1 + 511)]) (fun _ _ k => e_aload_n dX12_step_365 0 rfl k) ?_
      refine es_get (v := .ref (w.2.1 + 518)) xc_12 dX12_step_366 fl_X12_85 (by decide) (by decide) (cel_503 _ _ _) rfl ?_
      refine es_l (pc' := 372) (ls' := [(0, .ref (w.2.1 + 503)), (1, .int x1)]) (st' := [.int (x1 + 1), .ref (w.2.1 + 518), .ref (w.2.1 + 529), .int (64 * (S171.1 518 ((x1 + 1).toNatClampNeg))), .ref (w.2.1 + 526), .ref (w.2.1 + 511)]) (fun _ _ k => e_iload_n dX12_step_369 1 rfl (e_iconst (v := 1) dX12_step_370 (by decide) (e_iadd dX12_step_371 k))) ?_
      refine es_iald (v := .int (S171.1 518 ((x1 + 1).toNatClampNeg))) dX12_step_372 (by decide) (cel_518 _ _ _) g170 rfl ?_
      obtain ⟨g174, hf⟩ := xg hf
      refine es_iald (v := .int (S171.1 529 ((S171.1 518 ((x1 + 1).toNatClampNeg)).toNatClampNeg))) dX12_step_373 (by decide) (cel_529 _ _ _) g174 rfl ?_
      refine es_l (pc' := 375) (ls' := [(0, .ref (w.2.1 + 503)), (1, .int x1)]) (st' := [.int ((64 * (S171.1 518 ((x1 + 1).toNatClampNeg))) + (S171.1 529 ((S171.1 518 ((x1 + 1).toNatClampNeg)).toNatClampNeg))), .ref (w.2.1 + 526), .ref (w.2.1 + 511)]) (fun _ _ k => e_iadd dX12_step_374 k) ?_
      obtain ⟨g175, hf⟩ := xg hf
      refine es_iald (v := .int (S171.1 526 (((64 * (S171.1 518 ((x1 + 1).toNatClampNeg))) + (S171.1 529 ((S171.1 518 ((x1 + 1).toNatClampNeg)).toNatClampNeg))).toNatClampNeg))) dX12_step_375 (by decide) (cel_526 _ _ _) g175 rfl ?_
      refine es_l (pc' := 377) (ls' := [(0, .ref (w.2.1 + 503)), (1, .int x1)]) (st' := [.int 0, .int (S171.1 526 (((64 * (S171.1 518 ((x1 + 1).toNatClampNeg))) + (S171.1 529 ((S171.1 518 ((x1 + 1).toNatClampNeg)).toNatClampNeg))).toNatClampNeg)), .ref (w.2.1 + 511)]) (fun _ _ k => e_iconst (v := 0) dX12_step_376 (by decide) k) ?_
      obtain ⟨g176, hf⟩ := xg hf
      refine es_iast dX12_step_377 (by decide) (cel_511 _) g176 ?_
      refine es_sub [1] rfl ?_
      exact t_X12_step_378 N x1 (sI S171 511 ((S171.1 526 (((64 * (S171.1 518 ((x1 + 1).toNatClampNeg))) + (S171.1 529 ((S171.1 518 ((x1 + 1).toNatClampNeg)).toNatClampNeg))).toNatClampNeg)).toNatClampNeg) 0) r hf
  rw [if_neg c169] at hf
  by_cases c177 : (S.1 518 x1.toNatClampNeg : Int32).toInt ∈ [(110 : Int)]
  · rw [if_pos c177] at hf
    refine es_l (pc' := 382) (ls' := [(0, .ref (w.2.1 + 503)), (1, .int x1)]) (st' := []) (fun _ _ k => e_tabC (off := 376) dX12_step_6 c177 (by decide) rfl k) ?_
    refine es_l (pc' := 384) (ls' := [(0, .ref (w.2.1 + 503)), (1, .int x1)]) (st' := [.ref (w.2.1 + 503), .ref (w.2.1 + 503)]) (fun _ _ k => e_aload_n dX12_step_382 0 rfl (e_dup dX12_step_383 rfl k)) ?_
    refine es_get (v := .int (S.1 503 39)) xc_12 dX12_step_384 fl_X12_130 (by decide) (by decide) (cel_503 _ _ _) rfl ?_
    refine es_l (pc' := 389) (ls' := [(0, .ref (w.2.1 + 503)), (1, .int x1)]) (st' := [.int ((S.1 503 39) - 1), .ref (w.2.1 + 503)]) (fun _ _ k => e_iconst (v := 1) dX12_step_387 (by decide) (e_isub dX12_step_388 k)) ?_
    refine es_put xc_12 dX12_step_389 fl_X12_130 (by decide) (by decide) (by decide) (cel_503 _ _ _) rfl rfl rfl rfl ?_
    refine es_l (pc' := 393) (ls' := [(0, .ref (w.2.1 + 503)), (1, .int x1)]) (st' := [.ref (w.2.1 + 503)]) (fun _ _ k => e_aload_n dX12_step_392 0 rfl k) ?_
    refine es_get (v := .ref (w.2.1 + 525)) xc_12 dX12_step_393 fl_X12_127 (by decide) (by decide) (cel_503 _ _ _) rfl ?_
    refine es_l (pc' := 397) (ls' := [(0, .ref (w.2.1 + 503)), (1, .int x1)]) (st' := [.ref (w.2.1 + 503), .ref (w.2.1 + 525)]) (fun _ _ k => e_aload_n dX12_step_396 0 rfl k) ?_
    refine es_get (v := .int ((S.1 503 39) - 1)) xc_12 dX12_step_397 fl_X12_130 (by decide) (by decide) (cel_503 _ _ _) rfl ?_
    obtain ⟨g178, hf⟩ := xg hf
    refine es_iald (v := .int (S.1 525 (((S.1 503 39) - 1).toNatClampNeg))) dX12_step_400 (by decide) (cel_525 _ _ _) g178 rfl ?_
    refine es_br (c := (S.1 525 (((S.1 503 39) - 1).toNatClampNeg)) = 0) (tgt := 404) (pf := 415) (st' := []) (fun _ _ a b => e_if_ne dX12_step_401 rfl b a) (fun c179 => ?_) (fun c179 => ?_)
    · rw [if_pos c179] at hf
      refine es_l (pc' := 405) (ls' := [(0, .ref (w.2.1 + 503)), (1, .int x1)]) (st' := [.ref (w.2.1 + 503)]) (fun _ _ k => e_aload_n dX12_step_404 0 rfl k) ?_
      refine es_get (v := .ref (w.2.1 + 518)) xc_12 dX12_step_405 fl_X12_85 (by decide) (by decide) (cel_503 _ _ _) rfl ?_
      refine es_l (pc' := 411) (ls' := [(0, .ref (w.2.1 + 503)), (1, .int x1)]) (st' := [.int (x1 + 1), .ref (w.2.1 + 518)]) (fun _ _ k => e_iload_n dX12_step_408 1 rfl (e_iconst (v := 1) dX12_step_409 (by decide) (e_iadd dX12_step_410 k))) ?_
      obtain ⟨g180, hf⟩ := xg hf
      refine es_iald (v := .int (S.1 518 ((x1 + 1).toNatClampNeg))) dX12_step_411 (by decide) (cel_518 _ _ _) g180 rfl ?_
      refine es_l (pc' := 418) (ls' := [(0, .ref (w.2.1 + 503)), (1, .int x1)]) (st' := [.int (S.1 518 ((x1 + 1).toNatClampNeg))]) (fun _ _ k => e_goto (tgt := 418) dX12_step_412 rfl k) ?_
      refine es_sub [] rfl ?_
      exact t_X12_step_418 N (S.1 518 ((x1 + 1).toNatClampNeg)) (sI S 503 39 ((S.1 503 39) - 1)) r hf
    · rw [if_neg c179] at hf
      refine es_l (pc' := 418) (ls' := [(0, .ref (w.2.1 + 503)), (1, .int x1)]) (st' := [.int (x1 + 2)]) (fun _ _ k => e_iload_n dX12_step_415 1 rfl (e_iconst (v := 2) dX12_step_416 (by decide) (e_iadd dX12_step_417 k))) ?_
      refine es_sub [] rfl ?_
      exact t_X12_step_418 N (x1 + 2) (sI S 503 39 ((S.1 503 39) - 1)) r hf
  rw [if_neg c177] at hf
  by_cases c181 : (S.1 518 x1.toNatClampNeg : Int32).toInt ∈ [(111 : Int)]
  · rw [if_pos c181] at hf
    refine es_l (pc' := 419) (ls' := [(0, .ref (w.2.1 + 503)), (1, .int x1)]) (st' := []) (fun _ _ k => e_tabC (off := 413) dX12_step_6 c181 (by decide) rfl k) ?_
    refine es_l (pc' := 420) (ls' := [(0, .ref (w.2.1 + 503)), (1, .int x1)]) (st' := [.ref (w.2.1 + 503)]) (fun _ _ k => e_aload_n dX12_step_419 0 rfl k) ?_
    refine es_get (v := .ref (w.2.1 + 518)) xc_12 dX12_step_420 fl_X12_85 (by decide) (by decide) (cel_503 _ _ _) rfl ?_
    refine es_l (pc' := 426) (ls' := [(0, .ref (w.2.1 + 503)), (1, .int x1)]) (st' := [.int (x1 + 1), .ref (w.2.1 + 518)]) (fun _ _ k => e_iload_n dX12_step_423 1 rfl (e_iconst (v := 1) dX12_step_424 (by decide) (e_iadd dX12_step_425 k))) ?_
    obtain ⟨g182, hf⟩ := xg hf
    refine es_iald (v := .int (S.1 518 ((x1 + 1).toNatClampNeg))) dX12_step_426 (by decide) (cel_518 _ _ _) g182 rfl ?_
    exact es_ireturn (ty := .int) dX12_step_427 rfl rfl hf
  rw [if_neg c181] at hf
  refine es_l (pc' := 428) (ls' := [(0, .ref (w.2.1 + 503)), (1, .int x1)]) (st' := []) (fun _ _ k => e_tabD (L := [100, 101, 102, 103, 104, 105, 106, 107, 108, 109, 110, 111]) dX12_step_6 (by  simp only [List.mem_cons, List.not_mem_nil, or_false] at *; omega) (by decide) rfl k) ?_
  refine es_l (pc' := 429) (ls' := [(0, .ref (w.2.1 + 503)), (1, .int x1)]) (st' := [.ref (w.2.1 + 503)]) (fun _ _ k => e_aload_n dX12_step_428 0 rfl k) ?_
  refine es_get (v := .ref (w.2.1 + 525)) xc_12 dX12_step_429 fl_X12_127 (by decide) (by decide) (cel_503 _ _ _) rfl ?_
  refine es_l (pc' := 433) (ls' := [(0, .ref (w.2.1 + 503)), (1, .int x1)]) (st' := [.ref (w.2.1 + 503), .ref (w.2.1 + 525)]) (fun _ _ k => e_aload_n dX12_step_432 0 rfl k) ?_
  refine es_get (v := .int (S.1 503 39)) xc_12 dX12_step_433 fl_X12_130 (by decide) (by decide) (cel_503 _ _ _) rfl ?_
  refine es_l (pc' := 441) (ls' := [(0, .ref (w.2.1 + 503)), (1, .int x1)]) (st' := [.ref (w.2.1 + 503), .int (x1 + 2), .ref (w.2.1 + 503), .int (S.1 503 39), .ref (w.2.1 + 525)]) (fun _ _ k => e_aload_n dX12_step_436 0 rfl (e_iload_n dX12_step_437 1 rfl (e_iconst (v := 2) dX12_step_438 (by decide) (e_iadd dX12_step_439 (e_aload_n dX12_step_440 0 rfl k))))) ?_
  refine es_get (v := .ref (w.2.1 + 518)) xc_12 dX12_step_441 fl_X12_85 (by decide) (by decide) (cel_503 _ _ _) rfl ?_
  refine es_l (pc' := 447) (ls' := [(0, .ref (w.2.1 + 503)), (1, .int x1)]) (st' := [.int (x1 + 1), .ref (w.2.1 + 518), .int (x1 + 2), .ref (w.2.1 + 503), .int (S.1 503 39), .ref (w.2.1 + 525)]) (fun _ _ k => e_iload_n dX12_step_444 1 rfl (e_iconst (v := 1) dX12_step_445 (by decide) (e_iadd dX12_step_446 k))) ?_
  obtain ⟨g183, hf⟩ := xg hf
  refine es_iald (v := .int (S.1 518 ((x1 + 1).toNatClampNeg))) dX12_step_447 (by decide) (cel_518 _ _ _) g183 rfl ?_
  refine es_l (pc' := 449) (ls' := [(0, .ref (w.2.1 + 503)), (1, .int x1)]) (st' := [.int 0, .int (S.1 518 ((x1 + 1).toNatClampNeg)), .int (x1 + 2), .ref (w.2.1 + 503), .int (S.1 503 39), .ref (w.2.1 + 525)]) (fun _ _ k => e_iconst (v := 0) dX12_step_448 (by decide) k) ?_
  refine es_callVI (as := [.int (x1 + 2), .int (S.1 518 ((x1 + 1).toNatClampNeg)), .int 0]) (rest := [.int (S.1 503 39), .ref (w.2.1 + 525)]) hf xc_12 dX12_step_449 cs_X12_step_X12_eval ml_X12_387 im_X12_eval se_X12_eval rfl rfl (Nat.le_of_ble_eq_true rfl) (Nat.le_of_ble_eq_true rfl) (by decide) rfl (cel_503 _ _ _) (fun _ e => t_X12_eval N (x1 + 2) (S.1 518 ((x1 + 1).toNatClampNeg)) 0 S _ e) (by decide) (fun v185 S184 hf => ?_)
  obtain ⟨g186, hf⟩ := xg hf
  refine es_iast dX12_step_452 (by decide) (cel_525 _) g186 ?_
  refine es_l (pc' := 455) (ls' := [(0, .ref (w.2.1 + 503)), (1, .int x1)]) (st' := [.ref (w.2.1 + 503), .ref (w.2.1 + 503)]) (fun _ _ k => e_aload_n dX12_step_453 0 rfl (e_dup dX12_step_454 rfl k)) ?_
  refine es_get (v := .int (S184.1 503 39)) xc_12 dX12_step_455 fl_X12_130 (by decide) (by decide) (cel_503 _ _ _) rfl ?_
  refine es_l (pc' := 460) (ls' := [(0, .ref (w.2.1 + 503)), (1, .int x1)]) (st' := [.int ((S184.1 503 39) + 1), .ref (w.2.1 + 503)]) (fun _ _ k => e_iconst (v := 1) dX12_step_458 (by decide) (e_iadd dX12_step_459 k)) ?_
  refine es_put xc_12 dX12_step_460 fl_X12_130 (by decide) (by decide) (by decide) (cel_503 _ _ _) rfl rfl rfl rfl ?_
  refine es_l (pc' := 467) (ls' := [(0, .ref (w.2.1 + 503)), (1, .int x1)]) (st' := [.ref (w.2.1 + 503), .int (x1 + 2)]) (fun _ _ k => e_iload_n dX12_step_463 1 rfl (e_iconst (v := 2) dX12_step_464 (by decide) (e_iadd dX12_step_465 (e_aload_n dX12_step_466 0 rfl k)))) ?_
  refine es_get (v := .ref (w.2.1 + 518)) xc_12 dX12_step_467 fl_X12_85 (by decide) (by decide) (cel_503 _ _ _) rfl ?_
  refine es_l (pc' := 473) (ls' := [(0, .ref (w.2.1 + 503)), (1, .int x1)]) (st' := [.int (x1 + 1), .ref (w.2.1 + 518), .int (x1 + 2)]) (fun _ _ k => e_iload_n dX12_step_470 1 rfl (e_iconst (v := 1) dX12_step_471 (by decide) (e_iadd dX12_step_472 k))) ?_
  refine es_iald (v := .int (S184.1 518 ((x1 + 1).toNatClampNeg))) dX12_step_473 (by decide) (cel_518 _ _ _) g183 rfl ?_
  refine es_l (pc' := 475) (ls' := [(0, .ref (w.2.1 + 503)), (1, .int x1)]) (st' := [.int ((x1 + 2) + (S184.1 518 ((x1 + 1).toNatClampNeg)))]) (fun _ _ k => e_iadd dX12_step_474 k) ?_
  exact es_ireturn (ty := .int) dX12_step_475 rfl rfl hf
def f_X12_thrown (N : Nat)  (S : xS) : Option xr :=
  some (.inl (some (.inl (S.1 503 0))), S)
set_option maxRecDepth 100000 in
set_option maxHeartbeats 4000000 in
theorem t_X12_thrown {l : Launch} {w : xW} {g : Nat → xE} (N : Nat)  (S : xS) (r : xr) (hf : f_X12_thrown N  S = some r) : ES l w g M_X12_thrown 0 (lv_args 0 [.ref (w.2.1 + 503)]) [] S r := by
  show ES l w g M_X12_thrown 0 [(0, .ref (w.2.1 + 503))] [] S r
  unfold f_X12_thrown at hf
  refine es_l (pc' := 1) (ls' := [(0, .ref (w.2.1 + 503))]) (st' := [.ref (w.2.1 + 503)]) (fun _ _ k => e_aload_n dX12_thrown_0 0 rfl k) ?_
  refine es_get (v := .int (S.1 503 0)) xc_12 dX12_thrown_1 fl_X12_7 (by decide) (by decide) (cel_503 _ _ _) rfl ?_
  exact es_ireturn (ty := .int) dX12_thrown_4 rfl rfl hf
def f_X12_feed_50 (N : Nat)  : Nat → Int64 → Int32 → xS → Option xr
  | 0, _, _, _ => none
  | n + 1, y1, x4, S =>
  if x4 < 0 then
    some (.inl (some (.inl (S.1 503 2))), S)
  else
    if xin (S.1 503 2) 500 then
    f_X12_feed_50 N n y1 (x4 + (-1)) (sI (sI S 504 ((S.1 503 2).toNatClampNeg) ((((y1 : Int64) >>> ((8 * x4 : Int32).toInt64 &&& 63) : Int64).toInt32) &&& 255)) 503 2 ((S.1 503 2) + 1))
    else none
set_option maxRecDepth 100000 in
set_option maxHeartbeats 4000000 in
theorem t_X12_feed_50 {l : Launch} {w : xW} {g : Nat → xE} (N : Nat)   : ∀ (n : Nat) (y1 : Int64) (x4 : Int32) (S : xS) (r : xr), f_X12_feed_50 N  n y1 x4 S = some r → ES l w g M_X12_feed 50 [(0, .ref (w.2.1 + 503)), (1, .long y1), (4, .int x4)] [] S r := by
  intro n
  induction n with
  | zero => intro y1 x4 S r hf; cases hf
  | succ n ih =>
    intro y1 x4 S r hf
    rw [f_X12_feed_50.eq_2] at hf
    refine es_l (pc' := 52) (ls' := [(0, .ref (w.2.1 + 503)), (1, .long y1), (4, .int x4)]) (st' := [.int x4]) (fun _ _ k => e_iload dX12_feed_50 2 rfl k) ?_
    refine es_br (c := x4 < 0) (tgt := 92) (pf := 55) (st' := []) (fun _ _ a b => e_if_lt dX12_feed_52 rfl a b) (fun c13 => ?_) (fun c13 => ?_)
    · rw [if_pos c13] at hf
      refine es_l (pc' := 93) (ls' := [(0, .ref (w.2.1 + 503)), (1, .long y1), (4, .int x4)]) (st' := [.ref (w.2.1 + 503)]) (fun _ _ k => e_aload_n dX12_feed_92 0 rfl k) ?_
      refine es_get (v := .int (S.1 503 2)) xc_12 dX12_feed_93 fl_X12_17 (by decide) (by decide) (cel_503 _ _ _) rfl ?_
      exact es_ireturn (ty := .int) dX12_feed_96 rfl rfl hf
    · rw [if_neg c13] at hf
      refine es_l (pc' := 56) (ls' := [(0, .ref (w.2.1 + 503)), (1, .long y1), (4, .int x4)]) (st' := [.ref (w.2.1 + 503)]) (fun _ _ k => e_aload_n dX12_feed_55 0 rfl k) ?_
      refine es_get (v := .ref (w.2.1 + 504)) xc_12 dX12_feed_56 fl_X12_13 (by decide) (by decide) (cel_503 _ _ _) rfl ?_
      refine es_l (pc' := 60) (ls' := [(0, .ref (w.2.1 + 503)), (1, .long y1), (4, .int x4)]) (st' := [.ref (w.2.1 + 503), .ref (w.2.1 + 504)]) (fun _ _ k => e_aload_n dX12_feed_59 0 rfl k) ?_
      refine es_get (v := .int (S.1 503 2)) xc_12 dX12_feed_60 fl_X12_17 (by decide) (by decide) (cel_503 _ _ _) rfl ?_
      refine es_l (pc' := 75) (ls' := [(0, .ref (w.2.1 + 503)), (1, .long y1), (4, .int x4)]) (st' := [.int ((((y1 : Int64) >>> ((8 * x4 : Int32).toInt64 &&& 63) : Int64).toInt32) &&& 255), .int (S.1 503 2), .ref (w.2.1 + 504)]) (fun _ _ k => e_lload_n dX12_feed_63 1 rfl (e_bipush (v := 8) dX12_feed_64 (by decide) (e_iload dX12_feed_66 2 rfl (e_imul dX12_feed_68 (e_lshr (v := (y1 : Int64) >>> ((8 * x4 : Int32).toInt64 &&& 63)) dX12_feed_69 rfl (e_l2i (v := ((y1 : Int64) >>> ((8 * x4 : Int32).toInt64 &&& 63) : Int64).toInt32) dX12_feed_70 rfl (e_sipush (v := 255) dX12_feed_71 (by decide) (e_iand dX12_feed_74 k)))))))) ?_
      obtain ⟨g14, hf⟩ := xg hf
      refine es_iast dX12_feed_75 (by decide) (cel_504 _) g14 ?_
      refine es_l (pc' := 78) (ls' := [(0, .ref (w.2.1 + 503)), (1, .long y1), (4, .int x4)]) (st' := [.ref (w.2.1 + 503), .ref (w.2.1 + 503)]) (fun _ _ k => e_aload_n dX12_feed_76 0 rfl (e_dup dX12_feed_77 rfl k)) ?_
      refine es_get (v := .int (S.1 503 2)) xc_12 dX12_feed_78 fl_X12_17 (by decide) (by decide) (cel_503 _ _ _) rfl ?_
      refine es_l (pc' := 83) (ls' := [(0, .ref (w.2.1 + 503)), (1, .long y1), (4, .int x4)]) (st' := [.int ((S.1 503 2) + 1), .ref (w.2.1 + 503)]) (fun _ _ k => e_iconst (v := 1) dX12_feed_81 (by decide) (e_iadd dX12_feed_82 k)) ?_
      refine es_put xc_12 dX12_feed_83 fl_X12_17 (by decide) (by decide) (by decide) (cel_503 _ _ _) rfl rfl rfl rfl ?_
      refine es_l (pc' := 50) (ls' := [(4, .int (x4 + (-1))), (0, .ref (w.2.1 + 503)), (1, .long y1)]) (st' := []) (fun _ _ k => e_iinc (v := x4 + (-1)) (ls' := [(4, .int (x4 + (-1))), (0, .ref (w.2.1 + 503)), (1, .long y1)]) dX12_feed_86 2 rfl rfl (by decide) rfl (e_goto (tgt := 50) dX12_feed_89 rfl k)) ?_
      refine es_sub [1, 2, 0] rfl ?_
      exact ih y1 (x4 + (-1)) (sI (sI S 504 ((S.1 503 2).toNatClampNeg) ((((y1 : Int64) >>> ((8 * x4 : Int32).toInt64 &&& 63) : Int64).toInt32) &&& 255)) 503 2 ((S.1 503 2) + 1)) r hf
def f_X12_feed_33 (N : Nat)  (y1 : Int64) (x3 : Int32) (s0 : Int32) (S : xS) : Option xr :=
  if s0 = 0 then
    f_X12_feed_50 N N y1 (x3 - 1) (sI S 503 0 s0)
  else
    some (.inl (some (.inl 0)), sI S 503 0 s0)
set_option maxRecDepth 100000 in
set_option maxHeartbeats 4000000 in
theorem t_X12_feed_33 {l : Launch} {w : xW} {g : Nat → xE} (N : Nat)   (y1 : Int64) (x3 : Int32) (s0 : Int32) (S : xS) (r : xr) (hf : f_X12_feed_33 N  y1 x3 s0 S = some r) : ES l w g M_X12_feed 33 [(0, .ref (w.2.1 + 503)), (1, .long y1), (3, .int x3)] [.int s0, .ref (w.2.1 + 503)] S r := by
  unfold f_X12_feed_33 at hf
  refine es_put xc_12 dX12_feed_33 fl_X12_7 (by decide) (by decide) (by decide) (cel_503 _ _ _) rfl rfl rfl rfl ?_
  refine es_l (pc' := 37) (ls' := [(0, .ref (w.2.1 + 503)), (1, .long y1), (3, .int x3)]) (st' := [.ref (w.2.1 + 503)]) (fun _ _ k => e_aload_n dX12_feed_36 0 rfl k) ?_
  refine es_get (v := .int s0) xc_12 dX12_feed_37 fl_X12_7 (by decide) (by decide) (cel_503 _ _ _) rfl ?_
  refine es_br (c := s0 = 0) (tgt := 45) (pf := 43) (st' := []) (fun _ _ a b => e_if_eq dX12_feed_40 rfl a b) (fun c15 => ?_) (fun c15 => ?_)
  · rw [if_pos c15] at hf
    refine es_l (pc' := 50) (ls' := [(4, .int (x3 - 1)), (0, .ref (w.2.1 + 503)), (1, .long y1), (3, .int x3)]) (st' := []) (fun _ _ k => e_iload_n dX12_feed_45 2 rfl (e_iconst (v := 1) dX12_feed_46 (by decide) (e_isub dX12_feed_47 (e_istore (ls' := [(4, .int (x3 - 1)), (0, .ref (w.2.1 + 503)), (1, .long y1), (3, .int x3)]) dX12_feed_48 (by decide) rfl k)))) ?_
    refine es_sub [1, 2, 0] rfl ?_
    exact t_X12_feed_50 N N y1 (x3 - 1) (sI S 503 0 s0) r hf
  · rw [if_neg c15] at hf
    refine es_l (pc' := 44) (ls' := [(0, .ref (w.2.1 + 503)), (1, .long y1), (3, .int x3)]) (st' := [.int 0]) (fun _ _ k => e_iconst (v := 0) dX12_feed_43 (by decide) k) ?_
    exact es_ireturn (ty := .int) dX12_feed_44 rfl rfl hf
def f_X12_feed_12 (N : Nat)  (y1 : Int64) (x3 : Int32) (S : xS) : Option xr :=
  f_X12_feed_33 N y1 x3 1 S
set_option maxRecDepth 100000 in
set_option maxHeartbeats 4000000 in
theorem t_X12_feed_12 {l : Launch} {w : xW} {g : Nat → xE} (N : Nat)   (y1 : Int64) (x3 : Int32) (S : xS) (r : xr) (hf : f_X12_feed_12 N  y1 x3 S = some r) : ES l w g M_X12_feed 12 [(0, .ref (w.2.1 + 503)), (1, .long y1), (3, .int x3)] [.ref (w.2.1 + 503)] S r := by
  unfold f_X12_feed_12 at hf
  refine es_l (pc' := 33) (ls' := [(0, .ref (w.2.1 + 503)), (1, .long y1), (3, .int x3)]) (st' := [.int 1, .ref (w.2.1 + 503)]) (fun _ _ k => e_iconst (v := 1) dX12_feed_12 (by decide) (e_goto (tgt := 33) dX12_feed_13 rfl k)) ?_
  exact t_X12_feed_33 N y1 x3 1 S r hf
def f_X12_feed (N : Nat) (y1 : Int64) (x3 : Int32) (S : xS) : Option xr :=
  if x3 < 1 then
    f_X12_feed_12 N y1 x3 S
  else
    if x3 ≤ 8 then
      if ((S.1 503 2) + x3) ≤ 500 then
        f_X12_feed_33 N y1 x3 0 S
      else
        f_X12_feed_33 N y1 x3 2 S
    else
      f_X12_feed_12 N y1 x3 S
set_option maxRecDepth 100000 in
set_option maxHeartbeats 4000000 in
theorem t_X12_feed {l : Launch} {w : xW} {g : Nat → xE} (N : Nat) (y1 : Int64) (x3 : Int32) (S : xS) (r : xr) (hf : f_X12_feed N y1 x3 S = some r) : ES l w g M_X12_feed 0 (lv_args 0 [.ref (w.2.1 + 503), .long y1, .int x3]) [] S r := by
  show ES l w g M_X12_feed 0 [(0, .ref (w.2.1 + 503)), (1, .long y1), (3, .int x3)] [] S r
  unfold f_X12_feed at hf
  refine es_l (pc' := 3) (ls' := [(0, .ref (w.2.1 + 503)), (1, .long y1), (3, .int x3)]) (st' := [.int 1, .int x3, .ref (w.2.1 + 503)]) (fun _ _ k => e_aload_n dX12_feed_0 0 rfl (e_iload_n dX12_feed_1 2 rfl (e_iconst (v := 1) dX12_feed_2 (by decide) k))) ?_
  refine es_br (c := x3 < 1) (tgt := 12) (pf := 6) (st' := [.ref (w.2.1 + 503)]) (fun _ _ a b => e_icmp_lt dX12_feed_3 rfl a b) (fun c16 => ?_) (fun c16 => ?_)
  · rw [if_pos c16] at hf
    exact t_X12_feed_12 N y1 x3 S r hf
  · rw [if_neg c16] at hf
    refine es_l (pc' := 9) (ls' := [(0, .ref (w.2.1 + 503)), (1, .long y1), (3, .int x3)]) (st' := [.int 8, .int x3, .ref (w.2.1 + 503)]) (fun _ _ k => e_iload_n dX12_feed_6 2 rfl (e_bipush (v := 8) dX12_feed_7 (by decide) k)) ?_
    refine es_br (c := x3 ≤ 8) (tgt := 16) (pf := 12) (st' := [.ref (w.2.1 + 503)]) (fun _ _ a b => e_icmp_le dX12_feed_9 rfl a b) (fun c17 => ?_) (fun c17 => ?_)
    · rw [if_pos c17] at hf
      refine es_l (pc' := 17) (ls' := [(0, .ref (w.2.1 + 503)), (1, .long y1), (3, .int x3)]) (st' := [.ref (w.2.1 + 503), .ref (w.2.1 + 503)]) (fun _ _ k => e_aload_n dX12_feed_16 0 rfl k) ?_
      refine es_get (v := .int (S.1 503 2)) xc_12 dX12_feed_17 fl_X12_17 (by decide) (by decide) (cel_503 _ _ _) rfl ?_
      refine es_l (pc' := 25) (ls' := [(0, .ref (w.2.1 + 503)), (1, .long y1), (3, .int x3)]) (st' := [.int 500, .int ((S.1 503 2) + x3), .ref (w.2.1 + 503)]) (fun _ _ k => e_iload_n dX12_feed_20 2 rfl (e_iadd dX12_feed_21 (e_sipush (v := 500) dX12_feed_22 (by decide) k))) ?_
      refine es_br (c := ((S.1 503 2) + x3) ≤ 500) (tgt := 32) (pf := 28) (st' := [.ref (w.2.1 + 503)]) (fun _ _ a b => e_icmp_le dX12_feed_25 rfl a b) (fun c18 => ?_) (fun c18 => ?_)
      · rw [if_pos c18] at hf
        refine es_l (pc' := 33) (ls' := [(0, .ref (w.2.1 + 503)), (1, .long y1), (3, .int x3)]) (st' := [.int 0, .ref (w.2.1 + 503)]) (fun _ _ k => e_iconst (v := 0) dX12_feed_32 (by decide) k) ?_
        exact t_X12_feed_33 N y1 x3 0 S r hf
      · rw [if_neg c18] at hf
        refine es_l (pc' := 33) (ls' := [(0, .ref (w.2.1 + 503)), (1, .long y1), (3, .int x3)]) (st' := [.int 2, .ref (w.2.1 + 503)]) (fun _ _ k => e_iconst (v := 2) dX12_feed_28 (by decide) (e_goto (tgt := 33) dX12_feed_29 rfl k)) ?_
        exact t_X12_feed_33 N y1 x3 2 S r hf
    · rw [if_neg c17] at hf
      exact t_X12_feed_12 N y1 x3 S r hf
def f_X12_load_64 (N : Nat)  (x1 : Int32) (x2 : Int32) (s0 : Int32) (S : xS) : Option xr :=
  if (S.1 503 23) = 0 then
    some (.inl (some (.inl 0)), sI (sI (sI (sI S 503 0 s0) 503 2 0) 503 3 x1) 503 8 x2)
  else
    some (.inl (some (.inl (S.1 503 18))), sI (sI S 503 0 s0) 503 2 0)
set_option maxRecDepth 100000 in
set_option maxHeartbeats 4000000 in
theorem t_X12_load_64 {l : Launch} {w : xW} {g : Nat → xE} (N : Nat)   (x1 : Int32) (x2 : Int32) (s0 : Int32) (S : xS) (r : xr) (hf : f_X12_load_64 N  x1 x2 s0 S = some r) : ES l w g M_X12_load 64 [(0, .ref (w.2.1 + 503)), (1, .int x1), (2, .int x2)] [.int s0, .ref (w.2.1 + 503)] S r := by
  unfold f_X12_load_64 at hf
  refine es_put xc_12 dX12_load_64 fl_X12_7 (by decide) (by decide) (by decide) (cel_503 _ _ _) rfl rfl rfl rfl ?_
  refine es_l (pc' := 69) (ls' := [(0, .ref (w.2.1 + 503)), (1, .int x1), (2, .int x2)]) (st' := [.int 0, .ref (w.2.1 + 503)]) (fun _ _ k => e_aload_n dX12_load_67 0 rfl (e_iconst (v := 0) dX12_load_68 (by decide) k)) ?_
  refine es_put xc_12 dX12_load_69 fl_X12_17 (by decide) (by decide) (by decide) (cel_503 _ _ _) rfl rfl rfl rfl ?_
  refine es_l (pc' := 73) (ls' := [(0, .ref (w.2.1 + 503)), (1, .int x1), (2, .int x2)]) (st' := [.ref (w.2.1 + 503)]) (fun _ _ k => e_aload_n dX12_load_72 0 rfl k) ?_
  refine es_get (v := .int (S.1 503 23)) xc_12 dX12_load_73 fl_X12_81 (by decide) (by decide) (cel_503 _ _ _) rfl ?_
  refine es_br (c := (S.1 503 23) = 0) (tgt := 79) (pf := 91) (st' := []) (fun _ _ a b => e_if_ne dX12_load_76 rfl b a) (fun c19 => ?_) (fun c19 => ?_)
  · rw [if_pos c19] at hf
    refine es_l (pc' := 81) (ls' := [(0, .ref (w.2.1 + 503)), (1, .int x1), (2, .int x2)]) (st' := [.int x1, .ref (w.2.1 + 503)]) (fun _ _ k => e_aload_n dX12_load_79 0 rfl (e_iload_n dX12_load_80 1 rfl k)) ?_
    refine es_put xc_12 dX12_load_81 fl_X12_20 (by decide) (by decide) (by decide) (cel_503 _ _ _) rfl rfl rfl rfl ?_
    refine es_l (pc' := 86) (ls' := [(0, .ref (w.2.1 + 503)), (1, .int x1), (2, .int x2)]) (st' := [.int x2, .ref (w.2.1 + 503)]) (fun _ _ k => e_aload_n dX12_load_84 0 rfl (e_iload_n dX12_load_85 2 rfl k)) ?_
    refine es_put xc_12 dX12_load_86 fl_X12_36 (by decide) (by decide) (by decide) (cel_503 _ _ _) rfl rfl rfl rfl ?_
    refine es_l (pc' := 90) (ls' := [(0, .ref (w.2.1 + 503)), (1, .int x1), (2, .int x2)]) (st' := [.int 0]) (fun _ _ k => e_iconst (v := 0) dX12_load_89 (by decide) k) ?_
    exact es_ireturn (ty := .int) dX12_load_90 rfl rfl hf
  · rw [if_neg c19] at hf
    refine es_l (pc' := 92) (ls' := [(0, .ref (w.2.1 + 503)), (1, .int x1), (2, .int x2)]) (st' := [.ref (w.2.1 + 503)]) (fun _ _ k => e_aload_n dX12_load_91 0 rfl k) ?_
    refine es_get (v := .int (S.1 503 18)) xc_12 dX12_load_92 fl_X12_66 (by decide) (by decide) (cel_503 _ _ _) rfl ?_
    exact es_ireturn (ty := .int) dX12_load_95 rfl rfl hf
def f_X12_load_48 (N : Nat)  (x1 : Int32) (x2 : Int32) (s0 : Int32) (S : xS) : Option xr :=
  if (S.1 503 23) = 0 then
    f_X12_load_64 N x1 x2 1 (sI S 503 22 s0)
  else
    f_X12_load_64 N x1 x2 0 (sI S 503 22 s0)
set_option maxRecDepth 100000 in
set_option maxHeartbeats 4000000 in
theorem t_X12_load_48 {l : Launch} {w : xW} {g : Nat → xE} (N : Nat)   (x1 : Int32) (x2 : Int32) (s0 : Int32) (S : xS) (r : xr) (hf : f_X12_load_48 N  x1 x2 s0 S = some r) : ES l w g M_X12_load 48 [(0, .ref (w.2.1 + 503)), (1, .int x1), (2, .int x2)] [.int s0, .ref (w.2.1 + 503)] S r := by
  unfold f_X12_load_48 at hf
  refine es_put xc_12 dX12_load_48 fl_X12_78 (by decide) (by decide) (by decide) (cel_503 _ _ _) rfl rfl rfl rfl ?_
  refine es_l (pc' := 53) (ls' := [(0, .ref (w.2.1 + 503)), (1, .int x1), (2, .int x2)]) (st' := [.ref (w.2.1 + 503), .ref (w.2.1 + 503)]) (fun _ _ k => e_aload_n dX12_load_51 0 rfl (e_aload_n dX12_load_52 0 rfl k)) ?_
  refine es_get (v := .int (S.1 503 23)) xc_12 dX12_load_53 fl_X12_81 (by decide) (by decide) (cel_503 _ _ _) rfl ?_
  refine es_br (c := (S.1 503 23) = 0) (tgt := 63) (pf := 59) (st' := [.ref (w.2.1 + 503)]) (fun _ _ a b => e_if_eq dX12_load_56 rfl a b) (fun c20 => ?_) (fun c20 => ?_)
  · rw [if_pos c20] at hf
    refine es_l (pc' := 64) (ls' := [(0, .ref (w.2.1 + 503)), (1, .int x1), (2, .int x2)]) (st' := [.int 1, .ref (w.2.1 + 503)]) (fun _ _ k => e_iconst (v := 1) dX12_load_63 (by decide) k) ?_
    exact t_X12_load_64 N x1 x2 1 (sI S 503 22 s0) r hf
  · rw [if_neg c20] at hf
    refine es_l (pc' := 64) (ls' := [(0, .ref (w.2.1 + 503)), (1, .int x1), (2, .int x2)]) (st' := [.int 0, .ref (w.2.1 + 503)]) (fun _ _ k => e_iconst (v := 0) dX12_load_59 (by decide) (e_goto (tgt := 64) dX12_load_60 rfl k)) ?_
    exact t_X12_load_64 N x1 x2 0 (sI S 503 22 s0) r hf
def f_X12_load_40 (N : Nat)  (x1 : Int32) (x2 : Int32) (S : xS) : Option xr :=
  f_X12_load_48 N x1 x2 ((-1)) S
set_option maxRecDepth 100000 in
set_option maxHeartbeats 4000000 in
theorem t_X12_load_40 {l : Launch} {w : xW} {g : Nat → xE} (N : Nat)   (x1 : Int32) (x2 : Int32) (S : xS) (r : xr) (hf : f_X12_load_40 N  x1 x2 S = some r) : ES l w g M_X12_load 40 [(0, .ref (w.2.1 + 503)), (1, .int x1), (2, .int x2)] [.ref (w.2.1 + 503)] S r := by
  unfold f_X12_load_40 at hf
  refine es_l (pc' := 48) (ls' := [(0, .ref (w.2.1 + 503)), (1, .int x1), (2, .int x2)]) (st' := [.int ((-1)), .ref (w.2.1 + 503)]) (fun _ _ k => e_iconst (v := (-1)) dX12_load_40 (by decide) (e_goto (tgt := 48) dX12_load_41 rfl k)) ?_
  exact t_X12_load_48 N x1 x2 ((-1)) S r hf
def f_X12_load (N : Nat)  (S : xS) : Option xr :=
  xcV (f_X12_scan N S) (fun S21 =>
  xcI (f_X12_compile N S21) (fun v24 S23 =>
  if xbo v24 then
  if v24 = 0 then
    if (S23.1 503 21) = 1000 then
      f_X12_load_40 N (S.1 503 3) (S.1 503 8) (sI S23 503 23 v24)
    else
      f_X12_load_48 N (S.1 503 3) (S.1 503 8) (S23.1 503 21) (sI S23 503 23 v24)
  else
    f_X12_load_40 N (S.1 503 3) (S.1 503 8) (sI S23 503 23 v24)
  else none
  )
  )
set_option maxRecDepth 100000 in
set_option maxHeartbeats 4000000 in
theorem t_X12_load {l : Launch} {w : xW} {g : Nat → xE} (N : Nat)  (S : xS) (r : xr) (hf : f_X12_load N  S = some r) : ES l w g M_X12_load 0 (lv_args 0 [.ref (w.2.1 + 503)]) [] S r := by
  show ES l w g M_X12_load 0 [(0, .ref (w.2.1 + 503))] [] S r
  unfold f_X12_load at hf
  refine es_l (pc' := 1) (ls' := [(0, .ref (w.2.1 + 503))]) (st' := [.ref (w.2.1 + 503)]) (fun _ _ k => e_aload_n dX12_load_0 0 rfl k) ?_
  refine es_get (v := .int (S.1 503 3)) xc_12 dX12_load_1 fl_X12_20 (by decide) (by decide) (cel_503 _ _ _) rfl ?_
  refine es_l (pc' := 6) (ls' := [(1, .int (S.1 503 3)), (0, .ref (w.2.1 + 503))]) (st' := [.ref (w.2.1 + 503)]) (fun _ _ k => e_istore_n (ls' := [(1, .int (S.1 503 3)), (0, .ref (w.2.1 + 503))]) dX12_load_4 (by decide) rfl (e_aload_n dX12_load_5 1 rfl k)) ?_
  refine es_get (v := .int (S.1 503 8)) xc_12 dX12_load_6 fl_X12_36 (by decide) (by decide) (cel_503 _ _ _) rfl ?_
  refine es_l (pc' := 11) (ls' := [(2, .int (S.1 503 8)), (1, .int (S.1 503 3)), (0, .ref (w.2.1 + 503))]) (st' := [.ref (w.2.1 + 503)]) (fun _ _ k => e_istore_n (ls' := [(2, .int (S.1 503 8)), (1, .int (S.1 503 3)), (0, .ref (w.2.1 + 503))]) dX12_load_9 (by decide) rfl (e_aload_n dX12_load_10 2 rfl k)) ?_
  refine es_callVV (as := []) (rest := []) hf xc_12 dX12_load_11 cs_X12_load_X12_scan ml_X12_414 im_X12_scan se_X12_scan rfl rfl (Nat.le_of_ble_eq_true rfl) (Nat.le_of_ble_eq_true rfl) (by decide) rfl (cel_503 _ _ _) (fun _ e => t_X12_scan N  S _ e) (by decide) (fun S21 hf => ?_)
  refine es_l (pc' := 16) (ls' := [(2, .int (S.1 503 8)), (1, .int (S.1 503 3)), (0, .ref (w.2.1 + 503))]) (st' := [.ref (w.2.1 + 503), .ref (w.2.1 + 503)]) (fun _ _ k => e_aload_n dX12_load_14 2 rfl (e_aload_n dX12_load_15 2 rfl k)) ?_
  refine es_callVI (as := []) (rest := [.ref (w.2.1 + 503)]) hf xc_12 dX12_load_16 cs_X12_load_X12_compile ml_X12_417 im_X12_compile se_X12_compile rfl rfl (Nat.le_of_ble_eq_true rfl) (Nat.le_of_ble_eq_true rfl) (by decide) rfl (cel_503 _ _ _) (fun _ e => t_X12_compile N  S21 _ e) (by decide) (fun v24 S23 hf => ?_)
  obtain ⟨g25, hf⟩ := xg hf
  refine es_put xc_12 dX12_load_19 fl_X12_81 (by decide) (by decide) (by decide) (cel_503 _ _ _) rfl (xbo_n g25) (xbo_f g25) rfl ?_
  refine es_l (pc' := 24) (ls' := [(2, .int (S.1 503 8)), (1, .int (S.1 503 3)), (0, .ref (w.2.1 + 503))]) (st' := [.ref (w.2.1 + 503), .ref (w.2.1 + 503)]) (fun _ _ k => e_aload_n dX12_load_22 2 rfl (e_aload_n dX12_load_23 2 rfl k)) ?_
  refine es_get (v := .int v24) xc_12 dX12_load_24 fl_X12_81 (by decide) (by decide) (cel_503 _ _ _) rfl ?_
  refine es_br (c := v24 = 0) (tgt := 30) (pf := 40) (st' := [.ref (w.2.1 + 503)]) (fun _ _ a b => e_if_ne dX12_load_27 rfl b a) (fun c26 => ?_) (fun c26 => ?_)
  · rw [if_pos c26] at hf
    refine es_l (pc' := 31) (ls' := [(2, .int (S.1 503 8)), (1, .int (S.1 503 3)), (0, .ref (w.2.1 + 503))]) (st' := [.ref (w.2.1 + 503), .ref (w.2.1 + 503)]) (fun _ _ k => e_aload_n dX12_load_30 2 rfl k) ?_
    refine es_get (v := .int (S23.1 503 21)) xc_12 dX12_load_31 fl_X12_75 (by decide) (by decide) (cel_503 _ _ _) rfl ?_
    refine es_l (pc' := 37) (ls' := [(2, .int (S.1 503 8)), (1, .int (S.1 503 3)), (0, .ref (w.2.1 + 503))]) (st' := [.int 1000, .int (S23.1 503 21), .ref (w.2.1 + 503)]) (fun _ _ k => e_sipush (v := 1000) dX12_load_34 (by decide) k) ?_
    refine es_br (c := (S23.1 503 21) = 1000) (tgt := 40) (pf := 44) (st' := [.ref (w.2.1 + 503)]) (fun _ _ a b => e_icmp_ne dX12_load_37 rfl b a) (fun c27 => ?_) (fun c27 => ?_)
    · rw [if_pos c27] at hf
      refine es_sub [2, 1, 0] rfl ?_
      exact t_X12_load_40 N (S.1 503 3) (S.1 503 8) (sI S23 503 23 v24) r hf
    · rw [if_neg c27] at hf
      refine es_l (pc' := 45) (ls' := [(2, .int (S.1 503 8)), (1, .int (S.1 503 3)), (0, .ref (w.2.1 + 503))]) (st' := [.ref (w.2.1 + 503), .ref (w.2.1 + 503)]) (fun _ _ k => e_aload_n dX12_load_44 2 rfl k) ?_
      refine es_get (v := .int (S23.1 503 21)) xc_12 dX12_load_45 fl_X12_75 (by decide) (by decide) (cel_503 _ _ _) rfl ?_
      refine es_sub [2, 1, 0] rfl ?_
      exact t_X12_load_48 N (S.1 503 3) (S.1 503 8) (S23.1 503 21) (sI S23 503 23 v24) r hf
  · rw [if_neg c26] at hf
    refine es_sub [2, 1, 0] rfl ?_
    exact t_X12_load_40 N (S.1 503 3) (S.1 503 8) (sI S23 503 23 v24) r hf
def f_X12_place (N : Nat)  (S : xS) : Option xr :=
  some (.inl (some (.inl (S.1 503 22))), sI S 503 0 0)
set_option maxRecDepth 100000 in
set_option maxHeartbeats 4000000 in
theorem t_X12_place {l : Launch} {w : xW} {g : Nat → xE} (N : Nat)  (S : xS) (r : xr) (hf : f_X12_place N  S = some r) : ES l w g M_X12_place 0 (lv_args 0 [.ref (w.2.1 + 503)]) [] S r := by
  show ES l w g M_X12_place 0 [(0, .ref (w.2.1 + 503))] [] S r
  unfold f_X12_place at hf
  refine es_l (pc' := 2) (ls' := [(0, .ref (w.2.1 + 503))]) (st' := [.int 0, .ref (w.2.1 + 503)]) (fun _ _ k => e_aload_n dX12_place_0 0 rfl (e_iconst (v := 0) dX12_place_1 (by decide) k)) ?_
  refine es_put xc_12 dX12_place_2 fl_X12_7 (by decide) (by decide) (by decide) (cel_503 _ _ _) rfl rfl rfl rfl ?_
  refine es_l (pc' := 6) (ls' := [(0, .ref (w.2.1 + 503))]) (st' := [.ref (w.2.1 + 503)]) (fun _ _ k => e_aload_n dX12_place_5 0 rfl k) ?_
  refine es_get (v := .int (S.1 503 22)) xc_12 dX12_place_6 fl_X12_78 (by decide) (by decide) (cel_503 _ _ _) rfl ?_
  exact es_ireturn (ty := .int) dX12_place_9 rfl rfl hf
def f_X12_run_89 (N : Nat)  (s0 : Int32) (S : xS) : Option xr :=
  some (.inl (some (.inl s0)), S)
set_option maxRecDepth 100000 in
set_option maxHeartbeats 4000000 in
theorem t_X12_run_89 {l : Launch} {w : xW} {g : Nat → xE} (N : Nat)   (s0 : Int32) (S : xS) (r : xr) (hf : f_X12_run_89 N  s0 S = some r) : ES l w g M_X12_run 89 [] [.int s0] S r := by
  unfold f_X12_run_89 at hf
  exact es_ireturn (ty := .int) dX12_run_89 rfl rfl hf
def f_X12_run_79 (N : Nat)  (x2 : Int32) (S : xS) : Option xr :=
  if 0 ≤ x2 then
    f_X12_run_89 N 0 S
  else
    f_X12_run_89 N (-x2) S
set_option maxRecDepth 100000 in
set_option maxHeartbeats 4000000 in
theorem t_X12_run_79 {l : Launch} {w : xW} {g : Nat → xE} (N : Nat)   (x2 : Int32) (S : xS) (r : xr) (hf : f_X12_run_79 N  x2 S = some r) : ES l w g M_X12_run 79 [(2, .int x2)] [] S r := by
  unfold f_X12_run_79 at hf
  refine es_l (pc' := 80) (ls' := [(2, .int x2)]) (st' := [.int x2]) (fun _ _ k => e_iload_n dX12_run_79 0 rfl k) ?_
  refine es_br (c := 0 ≤ x2) (tgt := 88) (pf := 83) (st' := []) (fun _ _ a b => e_if_ge dX12_run_80 rfl a b) (fun c19 => ?_) (fun c19 => ?_)
  · rw [if_pos c19] at hf
    refine es_l (pc' := 89) (ls' := [(2, .int x2)]) (st' := [.int 0]) (fun _ _ k => e_iconst (v := 0) dX12_run_88 (by decide) k) ?_
    refine es_sub [] rfl ?_
    exact t_X12_run_89 N 0 S r hf
  · rw [if_neg c19] at hf
    refine es_l (pc' := 89) (ls' := [(2, .int x2)]) (st' := [.int (-x2)]) (fun _ _ k => e_iload_n dX12_run_83 0 rfl (e_ineg dX12_run_84 (e_goto (tgt := 89) dX12_run_85 rfl k))) ?_
    refine es_sub [] rfl ?_
    exact t_X12_run_89 N (-x2) S r hf
def f_X12_run_58 (N : Nat)  : Nat → Int32 → xS → Option xr
  | 0, _, _ => none
  | n + 1, x2, S =>
  if x2 < 0 then
    f_X12_run_79 N x2 S
  else
    if (S.1 503 25) ≤ x2 then
      f_X12_run_79 N x2 S
    else
      xcI (f_X12_step N x2 S) (fun v23 S22 =>
      f_X12_run_58 N n v23 S22
      )
set_option maxRecDepth 100000 in
set_option maxHeartbeats 4000000 in
theorem t_X12_run_58 {l : Launch} {w : xW} {g : Nat → xE} (N : Nat)   : ∀ (n : Nat) (x2 : Int32) (S : xS) (r : xr), f_X12_run_58 N  n x2 S = some r → ES l w g M_X12_run 58 [(0, .ref (w.2.1 + 503)), (2, .int x2)] [] S r := by
  intro n
  induction n with
  | zero => intro x2 S r hf; cases hf
  | succ n ih =>
    intro x2 S r hf
    rw [f_X12_run_58.eq_2] at hf
    refine es_l (pc' := 59) (ls' := [(0, .ref (w.2.1 + 503)), (2, .int x2)]) (st' := [.int x2]) (fun _ _ k => e_iload_n dX12_run_58 1 rfl k) ?_
    refine es_br (c := x2 < 0) (tgt := 79) (pf := 62) (st' := []) (fun _ _ a b => e_if_lt dX12_run_59 rfl a b) (fun c20 => ?_) (fun c20 => ?_)
    · rw [if_pos c20] at hf
      refine es_sub [1] rfl ?_
      exact t_X12_run_79 N x2 S r hf
    · rw [if_neg c20] at hf
      refine es_l (pc' := 64) (ls' := [(0, .ref (w.2.1 + 503)), (2, .int x2)]) (st' := [.ref (w.2.1 + 503), .int x2]) (fun _ _ k => e_iload_n dX12_run_62 1 rfl (e_aload_n dX12_run_63 0 rfl k)) ?_
      refine es_get (v := .int (S.1 503 25)) xc_12 dX12_run_64 fl_X12_88 (by decide) (by decide) (cel_503 _ _ _) rfl ?_
      refine es_br (c := (S.1 503 25) ≤ x2) (tgt := 79) (pf := 70) (st' := []) (fun _ _ a b => e_icmp_ge dX12_run_67 rfl a b) (fun c21 => ?_) (fun c21 => ?_)
      · rw [if_pos c21] at hf
        refine es_sub [1] rfl ?_
        exact t_X12_run_79 N x2 S r hf
      · rw [if_neg c21] at hf
        refine es_l (pc' := 72) (ls' := [(0, .ref (w.2.1 + 503)), (2, .int x2)]) (st' := [.int x2, .ref (w.2.1 + 503)]) (fun _ _ k => e_aload_n dX12_run_70 0 rfl (e_iload_n dX12_run_71 1 rfl k)) ?_
        refine es_callVI (as := [.int x2]) (rest := []) hf xc_12 dX12_run_72 cs_X12_run_X12_step ml_X12_420 im_X12_step se_X12_step rfl rfl (Nat.le_of_ble_eq_true rfl) (Nat.le_of_ble_eq_true rfl) (by decide) rfl (cel_503 _ _ _) (fun _ e => t_X12_step N x2 S _ e) (by decide) (fun v23 S22 hf => ?_)
        refine es_l (pc' := 58) (ls' := [(2, .int v23), (0, .ref (w.2.1 + 503))]) (st' := []) (fun _ _ k => e_istore_n (ls' := [(2, .int v23), (0, .ref (w.2.1 + 503))]) dX12_run_75 (by decide) rfl (e_goto (tgt := 58) dX12_run_76 rfl k)) ?_
        refine es_sub [1, 0] rfl ?_
        exact ih v23 S22 r hf
def f_X12_run_29 (N : Nat)  (x1 : Int32) (s0 : Int32) (S : xS) : Option xr :=
  if s0 = 0 then
    f_X12_run_58 N N 0 (sI (sI (sI (sI S 503 0 s0) 503 35 x1) 503 36 0) 503 39 0)
  else
    some (.inl (some (.inl 0)), sI S 503 0 s0)
set_option maxRecDepth 100000 in
set_option maxHeartbeats 4000000 in
theorem t_X12_run_29 {l : Launch} {w : xW} {g : Nat → xE} (N : Nat)   (x1 : Int32) (s0 : Int32) (S : xS) (r : xr) (hf : f_X12_run_29 N  x1 s0 S = some r) : ES l w g M_X12_run 29 [(0, .ref (w.2.1 + 503)), (1, .int x1)] [.int s0, .ref (w.2.1 + 503)] S r := by
  unfold f_X12_run_29 at hf
  refine es_put xc_12 dX12_run_29 fl_X12_7 (by decide) (by decide) (by decide) (cel_503 _ _ _) rfl rfl rfl rfl ?_
  refine es_l (pc' := 33) (ls' := [(0, .ref (w.2.1 + 503)), (1, .int x1)]) (st' := [.ref (w.2.1 + 503)]) (fun _ _ k => e_aload_n dX12_run_32 0 rfl k) ?_
  refine es_get (v := .int s0) xc_12 dX12_run_33 fl_X12_7 (by decide) (by decide) (cel_503 _ _ _) rfl ?_
  refine es_br (c := s0 = 0) (tgt := 41) (pf := 39) (st' := []) (fun _ _ a b => e_if_eq dX12_run_36 rfl a b) (fun c24 => ?_) (fun c24 => ?_)
  · rw [if_pos c24] at hf
    refine es_l (pc' := 43) (ls' := [(0, .ref (w.2.1 + 503)), (1, .int x1)]) (st' := [.int x1, .ref (w.2.1 + 503)]) (fun _ _ k => e_aload_n dX12_run_41 0 rfl (e_iload_n dX12_run_42 1 rfl k)) ?_
    refine es_put xc_12 dX12_run_43 fl_X12_118 (by decide) (by decide) (by decide) (cel_503 _ _ _) rfl rfl rfl rfl ?_
    refine es_l (pc' := 48) (ls' := [(0, .ref (w.2.1 + 503)), (1, .int x1)]) (st' := [.int 0, .ref (w.2.1 + 503)]) (fun _ _ k => e_aload_n dX12_run_46 0 rfl (e_iconst (v := 0) dX12_run_47 (by decide) k)) ?_
    refine es_put xc_12 dX12_run_48 fl_X12_121 (by decide) (by decide) (by decide) (cel_503 _ _ _) rfl rfl rfl rfl ?_
    refine es_l (pc' := 53) (ls' := [(0, .ref (w.2.1 + 503)), (1, .int x1)]) (st' := [.int 0, .ref (w.2.1 + 503)]) (fun _ _ k => e_aload_n dX12_run_51 0 rfl (e_iconst (v := 0) dX12_run_52 (by decide) k)) ?_
    refine es_put xc_12 dX12_run_53 fl_X12_130 (by decide) (by decide) (by decide) (cel_503 _ _ _) rfl rfl rfl rfl ?_
    refine es_l (pc' := 58) (ls' := [(2, .int 0), (0, .ref (w.2.1 + 503)), (1, .int x1)]) (st' := []) (fun _ _ k => e_iconst (v := 0) dX12_run_56 (by decide) (e_istore_n (ls' := [(2, .int 0), (0, .ref (w.2.1 + 503)), (1, .int x1)]) dX12_run_57 (by decide) rfl k)) ?_
    refine es_sub [1, 0] rfl ?_
    exact t_X12_run_58 N N 0 (sI (sI (sI (sI S 503 0 s0) 503 35 x1) 503 36 0) 503 39 0) r hf
  · rw [if_neg c24] at hf
    refine es_l (pc' := 40) (ls' := [(0, .ref (w.2.1 + 503)), (1, .int x1)]) (st' := [.int 0]) (fun _ _ k => e_iconst (v := 0) dX12_run_39 (by decide) k) ?_
    exact es_ireturn (ty := .int) dX12_run_40 rfl rfl hf
def f_X12_run_13 (N : Nat)  (x1 : Int32) (S : xS) : Option xr :=
  f_X12_run_29 N x1 1 S
set_option maxRecDepth 100000 in
set_option maxHeartbeats 4000000 in
theorem t_X12_run_13 {l : Launch} {w : xW} {g : Nat → xE} (N : Nat)   (x1 : Int32) (S : xS) (r : xr) (hf : f_X12_run_13 N  x1 S = some r) : ES l w g M_X12_run 13 [(0, .ref (w.2.1 + 503)), (1, .int x1)] [.ref (w.2.1 + 503)] S r := by
  unfold f_X12_run_13 at hf
  refine es_l (pc' := 29) (ls' := [(0, .ref (w.2.1 + 503)), (1, .int x1)]) (st' := [.int 1, .ref (w.2.1 + 503)]) (fun _ _ k => e_iconst (v := 1) dX12_run_13 (by decide) (e_goto (tgt := 29) dX12_run_14 rfl k)) ?_
  exact t_X12_run_29 N x1 1 S r hf
def f_X12_run (N : Nat) (x1 : Int32) (S : xS) : Option xr :=
  if x1 < 1 then
    f_X12_run_13 N x1 S
  else
    if x1 ≤ 20000 then
      if (S.1 503 23) = 0 then
        f_X12_run_29 N x1 2 S
      else
        f_X12_run_29 N x1 0 S
    else
      f_X12_run_13 N x1 S
set_option maxRecDepth 100000 in
set_option maxHeartbeats 4000000 in
theorem t_X12_run {l : Launch} {w : xW} {g : Nat → xE} (N : Nat) (x1 : Int32) (S : xS) (r : xr) (hf : f_X12_run N x1 S = some r) : ES l w g M_X12_run 0 (lv_args 0 [.ref (w.2.1 + 503), .int x1]) [] S r := by
  show ES l w g M_X12_run 0 [(0, .ref (w.2.1 + 503)), (1, .int x1)] [] S r
  unfold f_X12_run at hf
  refine es_l (pc' := 3) (ls' := [(0, .ref (w.2.1 + 503)), (1, .int x1)]) (st' := [.int 1, .int x1, .ref (w.2.1 + 503)]) (fun _ _ k => e_aload_n dX12_run_0 0 rfl (e_iload_n dX12_run_1 1 rfl (e_iconst (v := 1) dX12_run_2 (by decide) k))) ?_
  refine es_br (c := x1 < 1) (tgt := 13) (pf := 6) (st' := [.ref (w.2.1 + 503)]) (fun _ _ a b => e_icmp_lt dX12_run_3 rfl a b) (fun c25 => ?_) (fun c25 => ?_)
  · rw [if_pos c25] at hf
    exact t_X12_run_13 N x1 S r hf
  · rw [if_neg c25] at hf
    refine es_l (pc' := 10) (ls' := [(0, .ref (w.2.1 + 503)), (1, .int x1)]) (st' := [.int 20000, .int x1, .ref (w.2.1 + 503)]) (fun _ _ k => e_iload_n dX12_run_6 1 rfl (e_sipush (v := 20000) dX12_run_7 (by decide) k)) ?_
    refine es_br (c := x1 ≤ 20000) (tgt := 17) (pf := 13) (st' := [.ref (w.2.1 + 503)]) (fun _ _ a b => e_icmp_le dX12_run_10 rfl a b) (fun c26 => ?_) (fun c26 => ?_)
    · rw [if_pos c26] at hf
      refine es_l (pc' := 18) (ls' := [(0, .ref (w.2.1 + 503)), (1, .int x1)]) (st' := [.ref (w.2.1 + 503), .ref (w.2.1 + 503)]) (fun _ _ k => e_aload_n dX12_run_17 0 rfl k) ?_
      refine es_get (v := .int (S.1 503 23)) xc_12 dX12_run_18 fl_X12_81 (by decide) (by decide) (cel_503 _ _ _) rfl ?_
      refine es_br (c := (S.1 503 23) = 0) (tgt := 24) (pf := 28) (st' := [.ref (w.2.1 + 503)]) (fun _ _ a b => e_if_ne dX12_run_21 rfl b a) (fun c27 => ?_) (fun c27 => ?_)
      · rw [if_pos c27] at hf
        refine es_l (pc' := 29) (ls' := [(0, .ref (w.2.1 + 503)), (1, .int x1)]) (st' := [.int 2, .ref (w.2.1 + 503)]) (fun _ _ k => e_iconst (v := 2) dX12_run_24 (by decide) (e_goto (tgt := 29) dX12_run_25 rfl k)) ?_
        exact t_X12_run_29 N x1 2 S r hf
      · rw [if_neg c27] at hf
        refine es_l (pc' := 29) (ls' := [(0, .ref (w.2.1 + 503)), (1, .int x1)]) (st' := [.int 0, .ref (w.2.1 + 503)]) (fun _ _ k => e_iconst (v := 0) dX12_run_28 (by decide) k) ?_
        exact t_X12_run_29 N x1 0 S r hf
    · rw [if_neg c26] at hf
      exact t_X12_run_13 N x1 S r hf
