def f_X12_push (N : Nat) (x1 : Int32) (S : xS) : Option xr :=
  if xin (S.1 503 28) 160 then
  some (.inl (some (.inl 1)), sI (sI (sI S 519 ((S.1 503 28).toNatClampNeg) x1) 503 28 ((S.1 503 28) + 1)) 503 20 ((S.1 503 20) + 1))
  else none
set_option maxRecDepth 100000 in
set_option maxHeartbeats 4000000 in
theorem t_X12_push {l : Launch} {w : xW} {g : Nat → xE} (N : Nat) (x1 : Int32) (S : xS) (r : xr) (hf : f_X12_push N x1 S = some r) : ES l w g M_X12_push 0 (lv_args 0 [.ref (w.2.1 + 503), .int x1]) [] S r := by
  show ES l w g M_X12_push 0 [(0, .ref (w.2.1 + 503)), (1, .int x1)] [] S r
  unfold f_X12_push at hf
  refine es_l (pc' := 1) (ls' := [(0, .ref (w.2.1 + 503)), (1, .int x1)]) (st' := [.ref (w.2.1 + 503)]) (fun _ _ k => e_aload_n dX12_push_0 0 rfl k) ?_
  refine es_get (v := .ref (w.2.1 + 519)) xc_12 dX12_push_1 fl_X12_94 (by decide) (by decide) (cel_503 _ _ _) rfl ?_
  refine es_l (pc' := 5) (ls' := [(0, .ref (w.2.1 + 503)), (1, .int x1)]) (st' := [.ref (w.2.1 + 503), .ref (w.2.1 + 519)]) (fun _ _ k => e_aload_n dX12_push_4 0 rfl k) ?_
  refine es_get (v := .int (S.1 503 28)) xc_12 dX12_push_5 fl_X12_97 (by decide) (by decide) (cel_503 _ _ _) rfl ?_
  refine es_l (pc' := 9) (ls' := [(0, .ref (w.2.1 + 503)), (1, .int x1)]) (st' := [.int x1, .int (S.1 503 28), .ref (w.2.1 + 519)]) (fun _ _ k => e_iload_n dX12_push_8 1 rfl k) ?_
  obtain ⟨g2, hf⟩ := xg hf
  refine es_iast dX12_push_9 (by decide) (cel_519 _) g2 ?_
  refine es_l (pc' := 12) (ls' := [(0, .ref (w.2.1 + 503)), (1, .int x1)]) (st' := [.ref (w.2.1 + 503), .ref (w.2.1 + 503)]) (fun _ _ k => e_aload_n dX12_push_10 0 rfl (e_dup dX12_push_11 rfl k)) ?_
  refine es_get (v := .int (S.1 503 28)) xc_12 dX12_push_12 fl_X12_97 (by decide) (by decide) (cel_503 _ _ _) rfl ?_
  refine es_l (pc' := 17) (ls' := [(0, .ref (w.2.1 + 503)), (1, .int x1)]) (st' := [.int ((S.1 503 28) + 1), .ref (w.2.1 + 503)]) (fun _ _ k => e_iconst (v := 1) dX12_push_15 (by decide) (e_iadd dX12_push_16 k)) ?_
  refine es_put xc_12 dX12_push_17 fl_X12_97 (by decide) (by decide) (by decide) (cel_503 _ _ _) rfl rfl rfl rfl ?_
  refine es_l (pc' := 22) (ls' := [(0, .ref (w.2.1 + 503)), (1, .int x1)]) (st' := [.ref (w.2.1 + 503), .ref (w.2.1 + 503)]) (fun _ _ k => e_aload_n dX12_push_20 0 rfl (e_dup dX12_push_21 rfl k)) ?_
  refine es_get (v := .int (S.1 503 20)) xc_12 dX12_push_22 fl_X12_72 (by decide) (by decide) (cel_503 _ _ _) rfl ?_
  refine es_l (pc' := 27) (ls' := [(0, .ref (w.2.1 + 503)), (1, .int x1)]) (st' := [.int ((S.1 503 20) + 1), .ref (w.2.1 + 503)]) (fun _ _ k => e_iconst (v := 1) dX12_push_25 (by decide) (e_iadd dX12_push_26 k)) ?_
  refine es_put xc_12 dX12_push_27 fl_X12_72 (by decide) (by decide) (by decide) (cel_503 _ _ _) rfl rfl rfl rfl ?_
  refine es_l (pc' := 31) (ls' := [(0, .ref (w.2.1 + 503)), (1, .int x1)]) (st' := [.int 1]) (fun _ _ k => e_iconst (v := 1) dX12_push_30 (by decide) k) ?_
  exact es_ireturn (ty := .boolean) dX12_push_31 rfl rfl hf
def f_X12_aggregate_40 (N : Nat)   (S : xS) : Option xr :=
  xcI (f_X12_wrong N S) (fun v88 S87 =>
  if xbo v88 then
  some (.inl (some (.inl v88)), S87)
  else none
  )
set_option maxRecDepth 100000 in
set_option maxHeartbeats 4000000 in
theorem t_X12_aggregate_40 {l : Launch} {w : xW} {g : Nat → xE} (N : Nat)    (S : xS) (r : xr) (hf : f_X12_aggregate_40 N   S = some r) : ES l w g M_X12_aggregate 40 [(0, .ref (w.2.1 + 503))] [] S r := by
  unfold f_X12_aggregate_40 at hf
  refine es_l (pc' := 41) (ls' := [(0, .ref (w.2.1 + 503))]) (st' := [.ref (w.2.1 + 503)]) (fun _ _ k => e_aload_n dX12_aggregate_40 0 rfl k) ?_
  refine es_callVI (as := []) (rest := []) hf xc_12 dX12_aggregate_41 cs_X12_aggregate_X12_wrong ml_X12_235 im_X12_wrong se_X12_wrong rfl rfl (Nat.le_of_ble_eq_true rfl) (Nat.le_of_ble_eq_true rfl) (by decide) rfl (cel_503 _ _ _) (fun _ e => t_X12_wrong N  S _ e) (by decide) (fun v88 S87 hf => ?_)
  obtain ⟨g89, hf⟩ := xg hf
  exact es_ireturn (ty := .boolean) dX12_aggregate_44 rfl (xbo_n g89) hf
def f_X12_aggregate_95 (N : Nat)  (x1 : Int32) (x2 : Int32) (x3 : Int32) (S : xS) : Option xr :=
  xcV (f_X12_emit N 30 S) (fun S90 =>
  xcV (f_X12_emit N x1 S90) (fun S92 =>
  xcV (f_X12_emit N x2 S92) (fun S94 =>
  xcV (f_X12_emit N x3 S94) (fun S96 =>
  xcI (f_X12_isWord N 3 S96) (fun v99 S98 =>
  if v99 = 0 then
    xcV (f_X12_emit N 1 S98) (fun S101 =>
    xcV (f_X12_emit N 1 S101) (fun S103 =>
    xcV (f_X12_emit N 31 S103) (fun S105 =>
    xcI (f_X12_sign N 41 (sI S105 503 26 ((S105.1 503 26) - 1))) (fun v108 S107 =>
    if xbo v108 then
    some (.inl (some (.inl v108)), S107)
    else none
    )
    )
    )
    )
  else
    xcI (f_X12_push N 2 (sI S98 503 29 x2)) (fun v111 S110 =>
    if xbo v111 then
    some (.inl (some (.inl v111)), S110)
    else none
    )
  )
  )
  )
  )
  )
set_option maxRecDepth 100000 in
set_option maxHeartbeats 4000000 in
theorem t_X12_aggregate_95 {l : Launch} {w : xW} {g : Nat → xE} (N : Nat)   (x1 : Int32) (x2 : Int32) (x3 : Int32) (S : xS) (r : xr) (hf : f_X12_aggregate_95 N  x1 x2 x3 S = some r) : ES l w g M_X12_aggregate 95 [(0, .ref (w.2.1 + 503)), (1, .int x1), (2, .int x2), (3, .int x3)] [] S r := by
  unfold f_X12_aggregate_95 at hf
  refine es_l (pc' := 98) (ls' := [(0, .ref (w.2.1 + 503)), (1, .int x1), (2, .int x2), (3, .int x3)]) (st' := [.int 30, .ref (w.2.1 + 503)]) (fun _ _ k => e_aload_n dX12_aggregate_95 0 rfl (e_bipush (v := 30) dX12_aggregate_96 (by decide) k)) ?_
  refine es_callVV (as := [.int 30]) (rest := []) hf xc_12 dX12_aggregate_98 cs_X12_aggregate_X12_emit ml_X12_278 im_X12_emit se_X12_emit rfl rfl (Nat.le_of_ble_eq_true rfl) (Nat.le_of_ble_eq_true rfl) (by decide) rfl (cel_503 _ _ _) (fun _ e => t_X12_emit N 30 S _ e) (by decide) (fun S90 hf => ?_)
  refine es_l (pc' := 103) (ls' := [(0, .ref (w.2.1 + 503)), (1, .int x1), (2, .int x2), (3, .int x3)]) (st' := [.int x1, .ref (w.2.1 + 503)]) (fun _ _ k => e_aload_n dX12_aggregate_101 0 rfl (e_iload_n dX12_aggregate_102 1 rfl k)) ?_
  refine es_callVV (as := [.int x1]) (rest := []) hf xc_12 dX12_aggregate_103 cs_X12_aggregate_X12_emit ml_X12_278 im_X12_emit se_X12_emit rfl rfl (Nat.le_of_ble_eq_true rfl) (Nat.le_of_ble_eq_true rfl) (by decide) rfl (cel_503 _ _ _) (fun _ e => t_X12_emit N x1 S90 _ e) (by decide) (fun S92 hf => ?_)
  refine es_l (pc' := 108) (ls' := [(0, .ref (w.2.1 + 503)), (1, .int x1), (2, .int x2), (3, .int x3)]) (st' := [.int x2, .ref (w.2.1 + 503)]) (fun _ _ k => e_aload_n dX12_aggregate_106 0 rfl (e_iload_n dX12_aggregate_107 2 rfl k)) ?_
  refine es_callVV (as := [.int x2]) (rest := []) hf xc_12 dX12_aggregate_108 cs_X12_aggregate_X12_emit ml_X12_278 im_X12_emit se_X12_emit rfl rfl (Nat.le_of_ble_eq_true rfl) (Nat.le_of_ble_eq_true rfl) (by decide) rfl (cel_503 _ _ _) (fun _ e => t_X12_emit N x2 S92 _ e) (by decide) (fun S94 hf => ?_)
  refine es_l (pc' := 113) (ls' := [(0, .ref (w.2.1 + 503)), (1, .int x1), (2, .int x2), (3, .int x3)]) (st' := [.int x3, .ref (w.2.1 + 503)]) (fun _ _ k => e_aload_n dX12_aggregate_111 0 rfl (e_iload_n dX12_aggregate_112 3 rfl k)) ?_
  refine es_callVV (as := [.int x3]) (rest := []) hf xc_12 dX12_aggregate_113 cs_X12_aggregate_X12_emit ml_X12_278 im_X12_emit se_X12_emit rfl rfl (Nat.le_of_ble_eq_true rfl) (Nat.le_of_ble_eq_true rfl) (by decide) rfl (cel_503 _ _ _) (fun _ e => t_X12_emit N x3 S94 _ e) (by decide) (fun S96 hf => ?_)
  refine es_l (pc' := 118) (ls' := [(0, .ref (w.2.1 + 503)), (1, .int x1), (2, .int x2), (3, .int x3)]) (st' := [.int 3, .ref (w.2.1 + 503)]) (fun _ _ k => e_aload_n dX12_aggregate_116 0 rfl (e_iconst (v := 3) dX12_aggregate_117 (by decide) k)) ?_
  refine es_callVI (as := [.int 3]) (rest := []) hf xc_12 dX12_aggregate_118 cs_X12_aggregate_X12_isWord ml_X12_239 im_X12_isWord se_X12_isWord rfl rfl (Nat.le_of_ble_eq_true rfl) (Nat.le_of_ble_eq_true rfl) (by decide) rfl (cel_503 _ _ _) (fun _ e => t_X12_isWord N 3 S96 _ e) (by decide) (fun v99 S98 hf => ?_)
  refine es_br (c := v99 = 0) (tgt := 135) (pf := 124) (st' := []) (fun _ _ a b => e_if_eq dX12_aggregate_121 rfl a b) (fun c100 => ?_) (fun c100 => ?_)
  · rw [if_pos c100] at hf
    refine es_l (pc' := 137) (ls' := [(0, .ref (w.2.1 + 503)), (1, .int x1), (2, .int x2), (3, .int x3)]) (st' := [.int 1, .ref (w.2.1 + 503)]) (fun _ _ k => e_aload_n dX12_aggregate_135 0 rfl (e_iconst (v := 1) dX12_aggregate_136 (by decide) k)) ?_
    refine es_callVV (as := [.int 1]) (rest := []) hf xc_12 dX12_aggregate_137 cs_X12_aggregate_X12_emit ml_X12_278 im_X12_emit se_X12_emit rfl rfl (Nat.le_of_ble_eq_true rfl) (Nat.le_of_ble_eq_true rfl) (by decide) rfl (cel_503 _ _ _) (fun _ e => t_X12_emit N 1 S98 _ e) (by decide) (fun S101 hf => ?_)
    refine es_l (pc' := 142) (ls' := [(0, .ref (w.2.1 + 503)), (1, .int x1), (2, .int x2), (3, .int x3)]) (st' := [.int 1, .ref (w.2.1 + 503)]) (fun _ _ k => e_aload_n dX12_aggregate_140 0 rfl (e_iconst (v := 1) dX12_aggregate_141 (by decide) k)) ?_
    refine es_callVV (as := [.int 1]) (rest := []) hf xc_12 dX12_aggregate_142 cs_X12_aggregate_X12_emit ml_X12_278 im_X12_emit se_X12_emit rfl rfl (Nat.le_of_ble_eq_true rfl) (Nat.le_of_ble_eq_true rfl) (by decide) rfl (cel_503 _ _ _) (fun _ e => t_X12_emit N 1 S101 _ e) (by decide) (fun S103 hf => ?_)
    refine es_l (pc' := 148) (ls' := [(0, .ref (w.2.1 + 503)), (1, .int x1), (2, .int x2), (3, .int x3)]) (st' := [.int 31, .ref (w.2.1 + 503)]) (fun _ _ k => e_aload_n dX12_aggregate_145 0 rfl (e_bipush (v := 31) dX12_aggregate_146 (by decide) k)) ?_
    refine es_callVV (as := [.int 31]) (rest := []) hf xc_12 dX12_aggregate_148 cs_X12_aggregate_X12_emit ml_X12_278 im_X12_emit se_X12_emit rfl rfl (Nat.le_of_ble_eq_true rfl) (Nat.le_of_ble_eq_true rfl) (by decide) rfl (cel_503 _ _ _) (fun _ e => t_X12_emit N 31 S103 _ e) (by decide) (fun S105 hf => ?_)
    refine es_l (pc' := 153) (ls' := [(0, .ref (w.2.1 + 503)), (1, .int x1), (2, .int x2), (3, .int x3)]) (st' := [.ref (w.2.1 + 503), .ref (w.2.1 + 503)]) (fun _ _ k => e_aload_n dX12_aggregate_151 0 rfl (e_dup dX12_aggregate_152 rfl k)) ?_
    refine es_get (v := .int (S105.1 503 26)) xc_12 dX12_aggregate_153 fl_X12_91 (by decide) (by decide) (cel_503 _ _ _) rfl ?_
    refine es_l (pc' := 158) (ls' := [(0, .ref (w.2.1 + 503)), (1, .int x1), (2, .int x2), (3, .int x3)]) (st' := [.int ((S105.1 503 26) - 1), .ref (w.2.1 + 503)]) (fun _ _ k => e_iconst (v := 1) dX12_aggregate_156 (by decide) (e_isub dX12_aggregate_157 k)) ?_
    refine es_put xc_12 dX12_aggregate_158 fl_X12_91 (by decide) (by decide) (by decide) (cel_503 _ _ _) rfl rfl rfl rfl ?_
    refine es_l (pc' := 164) (ls' := [(0, .ref (w.2.1 + 503)), (1, .int x1), (2, .int x2), (3, .int x3)]) (st' := [.int 41, .ref (w.2.1 + 503)]) (fun _ _ k => e_aload_n dX12_aggregate_161 0 rfl (e_bipush (v := 41) dX12_aggregate_162 (by decide) k)) ?_
    refine es_callVI (as := [.int 41]) (rest := []) hf xc_12 dX12_aggregate_164 cs_X12_aggregate_X12_sign ml_X12_299 im_X12_sign se_X12_sign rfl rfl (Nat.le_of_ble_eq_true rfl) (Nat.le_of_ble_eq_true rfl) (by decide) rfl (cel_503 _ _ _) (fun _ e => t_X12_sign N 41 (sI S105 503 26 ((S105.1 503 26) - 1)) _ e) (by decide) (fun v108 S107 hf => ?_)
    obtain ⟨g109, hf⟩ := xg hf
    exact es_ireturn (ty := .boolean) dX12_aggregate_167 rfl (xbo_n g109) hf
  · rw [if_neg c100] at hf
    refine es_l (pc' := 126) (ls' := [(0, .ref (w.2.1 + 503)), (1, .int x1), (2, .int x2), (3, .int x3)]) (st' := [.int x2, .ref (w.2.1 + 503)]) (fun _ _ k => e_aload_n dX12_aggregate_124 0 rfl (e_iload_n dX12_aggregate_125 2 rfl k)) ?_
    refine es_put xc_12 dX12_aggregate_126 fl_X12_100 (by decide) (by decide) (by decide) (cel_503 _ _ _) rfl rfl rfl rfl ?_
    refine es_l (pc' := 131) (ls' := [(0, .ref (w.2.1 + 503)), (1, .int x1), (2, .int x2), (3, .int x3)]) (st' := [.int 2, .ref (w.2.1 + 503)]) (fun _ _ k => e_aload_n dX12_aggregate_129 0 rfl (e_iconst (v := 2) dX12_aggregate_130 (by decide) k)) ?_
    refine es_callVI (as := [.int 2]) (rest := []) hf xc_12 dX12_aggregate_131 cs_X12_aggregate_X12_push ml_X12_282 im_X12_push se_X12_push rfl rfl (Nat.le_of_ble_eq_true rfl) (Nat.le_of_ble_eq_true rfl) (by decide) rfl (cel_503 _ _ _) (fun _ e => t_X12_push N 2 (sI S98 503 29 x2) _ e) (by decide) (fun v111 S110 hf => ?_)
    obtain ⟨g112, hf⟩ := xg hf
    exact es_ireturn (ty := .boolean) dX12_aggregate_134 rfl (xbo_n g112) hf
def f_X12_aggregate (N : Nat)  (S : xS) : Option xr :=
  if xin (S.1 503 20) 152 then
  xcI (f_X12_isSign N 40 (sI S 503 20 ((S.1 503 20) + 1))) (fun v115 S114 =>
  if v115 = 0 then
    f_X12_aggregate_40 N S114
  else
    xcI (f_X12_bracket N S114) (fun v118 S117 =>
    if v118 = 0 then
      f_X12_aggregate_40 N S117
    else
      xcI (f_X12_takeKind N (sI S117 503 20 ((S117.1 503 20) + 1))) (fun v121 S120 =>
      if 0 ≤ v121 then
        if (((S.2.1 516 ((S.1 503 20).toNatClampNeg) : Int64).toInt32) - 16) ≤ 0 then
          f_X12_aggregate_95 N (((S.2.1 516 ((S.1 503 20).toNatClampNeg) : Int64).toInt32) - 16) v121 0 S120
        else
          xcI (f_X12_sign N 46 S120) (fun v125 S124 =>
          if v125 = 0 then
            some (.inl (some (.inl 0)), S124)
          else
            xcI (f_X12_takeField N v121 S124) (fun v128 S127 =>
            if 0 ≤ v128 then
              f_X12_aggregate_95 N (((S.2.1 516 ((S.1 503 20).toNatClampNeg) : Int64).toInt32) - 16) v121 v128 S127
            else
              some (.inl (some (.inl 0)), S127)
            )
          )
      else
        some (.inl (some (.inl 0)), S120)
      )
    )
  )
  else none
set_option maxRecDepth 100000 in
set_option maxHeartbeats 4000000 in
theorem t_X12_aggregate {l : Launch} {w : xW} {g : Nat → xE} (N : Nat)  (S : xS) (r : xr) (hf : f_X12_aggregate N  S = some r) : ES l w g M_X12_aggregate 0 (lv_args 0 [.ref (w.2.1 + 503)]) [] S r := by
  show ES l w g M_X12_aggregate 0 [(0, .ref (w.2.1 + 503))] [] S r
  unfold f_X12_aggregate at hf
  refine es_l (pc' := 1) (ls' := [(0, .ref (w.2.1 + 503))]) (st' := [.ref (w.2.1 + 503)]) (fun _ _ k => e_aload_n dX12_aggregate_0 0 rfl k) ?_
  refine es_get (v := .ref (w.2.1 + 516)) xc_12 dX12_aggregate_1 fl_X12_63 (by decide) (by decide) (cel_503 _ _ _) rfl ?_
  refine es_l (pc' := 5) (ls' := [(0, .ref (w.2.1 + 503))]) (st' := [.ref (w.2.1 + 503), .ref (w.2.1 + 516)]) (fun _ _ k => e_aload_n dX12_aggregate_4 0 rfl k) ?_
  refine es_get (v := .int (S.1 503 20)) xc_12 dX12_aggregate_5 fl_X12_72 (by decide) (by decide) (cel_503 _ _ _) rfl ?_
  obtain ⟨g113, hf⟩ := xg hf
  refine es_lald (v := .long (S.2.1 516 ((S.1 503 20).toNatClampNeg))) dX12_aggregate_8 (by decide) (cel_516 _ _ _) g113 rfl ?_
  refine es_l (pc' := 16) (ls' := [(1, .int (((S.2.1 516 ((S.1 503 20).toNatClampNeg) : Int64).toInt32) - 16)), (0, .ref (w.2.1 + 503))]) (st' := [.ref (w.2.1 + 503), .ref (w.2.1 + 503)]) (fun _ _ k => e_l2i (v := (S.2.1 516 ((S.1 503 20).toNatClampNeg) : Int64).toInt32) dX12_aggregate_9 rfl (e_bipush (v := 16) dX12_aggregate_10 (by decide) (e_isub dX12_aggregate_12 (e_istore_n (ls' := [(1, .int (((S.2.1 516 ((S.1 503 20).toNatClampNeg) : Int64).toInt32) - 16)), (0, .ref (w.2.1 + 503))]) dX12_aggregate_13 (by decide) rfl (e_aload_n dX12_aggregate_14 1 rfl (e_dup dX12_aggregate_15 rfl k)))))) ?_
  refine es_get (v := .int (S.1 503 20)) xc_12 dX12_aggregate_16 fl_X12_72 (by decide) (by decide) (cel_503 _ _ _) rfl ?_
  refine es_l (pc' := 21) (ls' := [(1, .int (((S.2.1 516 ((S.1 503 20).toNatClampNeg) : Int64).toInt32) - 16)), (0, .ref (w.2.1 + 503))]) (st' := [.int ((S.1 503 20) + 1), .ref (w.2.1 + 503)]) (fun _ _ k => e_iconst (v := 1) dX12_aggregate_19 (by decide) (e_iadd dX12_aggregate_20 k)) ?_
  refine es_put xc_12 dX12_aggregate_21 fl_X12_72 (by decide) (by decide) (by decide) (cel_503 _ _ _) rfl rfl rfl rfl ?_
  refine es_l (pc' := 27) (ls' := [(1, .int (((S.2.1 516 ((S.1 503 20).toNatClampNeg) : Int64).toInt32) - 16)), (0, .ref (w.2.1 + 503))]) (st' := [.int 40, .ref (w.2.1 + 503)]) (fun _ _ k => e_aload_n dX12_aggregate_24 1 rfl (e_bipush (v := 40) dX12_aggregate_25 (by decide) k)) ?_
  refine es_callVI (as := [.int 40]) (rest := []) hf xc_12 dX12_aggregate_27 cs_X12_aggregate_X12_isSign ml_X12_232 im_X12_isSign se_X12_isSign rfl rfl (Nat.le_of_ble_eq_true rfl) (Nat.le_of_ble_eq_true rfl) (by decide) rfl (cel_503 _ _ _) (fun _ e => t_X12_isSign N 40 (sI S 503 20 ((S.1 503 20) + 1)) _ e) (by decide) (fun v115 S114 hf => ?_)
  refine es_br (c := v115 = 0) (tgt := 40) (pf := 33) (st' := []) (fun _ _ a b => e_if_eq dX12_aggregate_30 rfl a b) (fun c116 => ?_) (fun c116 => ?_)
  · rw [if_pos c116] at hf
    refine es_sub [1] rfl ?_
    exact t_X12_aggregate_40 N S114 r hf
  · rw [if_neg c116] at hf
    refine es_l (pc' := 34) (ls' := [(1, .int (((S.2.1 516 ((S.1 503 20).toNatClampNeg) : Int64).toInt32) - 16)), (0, .ref (w.2.1 + 503))]) (st' := [.ref (w.2.1 + 503)]) (fun _ _ k => e_aload_n dX12_aggregate_33 1 rfl k) ?_
    refine es_callVI (as := []) (rest := []) hf xc_12 dX12_aggregate_34 cs_X12_aggregate_X12_bracket ml_X12_285 im_X12_bracket se_X12_bracket rfl rfl (Nat.le_of_ble_eq_true rfl) (Nat.le_of_ble_eq_true rfl) (by decide) rfl (cel_503 _ _ _) (fun _ e => t_X12_bracket N  S114 _ e) (by decide) (fun v118 S117 hf => ?_)
    refine es_br (c := v118 = 0) (tgt := 40) (pf := 45) (st' := []) (fun _ _ a b => e_if_ne dX12_aggregate_37 rfl b a) (fun c119 => ?_) (fun c119 => ?_)
    · rw [if_pos c119] at hf
      refine es_sub [1] rfl ?_
      exact t_X12_aggregate_40 N S117 r hf
    · rw [if_neg c119] at hf
      refine es_l (pc' := 47) (ls' := [(1, .int (((S.2.1 516 ((S.1 503 20).toNatClampNeg) : Int64).toInt32) - 16)), (0, .ref (w.2.1 + 503))]) (st' := [.ref (w.2.1 + 503), .ref (w.2.1 + 503)]) (fun _ _ k => e_aload_n dX12_aggregate_45 1 rfl (e_dup dX12_aggregate_46 rfl k)) ?_
      refine es_get (v := .int (S117.1 503 20)) xc_12 dX12_aggregate_47 fl_X12_72 (by decide) (by decide) (cel_503 _ _ _) rfl ?_
      refine es_l (pc' := 52) (ls' := [(1, .int (((S.2.1 516 ((S.1 503 20).toNatClampNeg) : Int64).toInt32) - 16)), (0, .ref (w.2.1 + 503))]) (st' := [.int ((S117.1 503 20) + 1), .ref (w.2.1 + 503)]) (fun _ _ k => e_iconst (v := 1) dX12_aggregate_50 (by decide) (e_iadd dX12_aggregate_51 k)) ?_
      refine es_put xc_12 dX12_aggregate_52 fl_X12_72 (by decide) (by decide) (by decide) (cel_503 _ _ _) rfl rfl rfl rfl ?_
      refine es_l (pc' := 56) (ls' := [(1, .int (((S.2.1 516 ((S.1 503 20).toNatClampNeg) : Int64).toInt32) - 16)), (0, .ref (w.2.1 + 503))]) (st' := [.ref (w.2.1 + 503)]) (fun _ _ k => e_aload_n dX12_aggregate_55 1 rfl k) ?_
      refine es_callVI (as := []) (rest := []) hf xc_12 dX12_aggregate_56 cs_X12_aggregate_X12_takeKind ml_X12_305 im_X12_takeKind se_X12_takeKind rfl rfl (Nat.le_of_ble_eq_true rfl) (Nat.le_of_ble_eq_true rfl) (by decide) rfl (cel_503 _ _ _) (fun _ e => t_X12_takeKind N  (sI S117 503 20 ((S117.1 503 20) + 1)) _ e) (by decide) (fun v121 S120 hf => ?_)
      refine es_l (pc' := 61) (ls' := [(2, .int v121), (1, .int (((S.2.1 516 ((S.1 503 20).toNatClampNeg) : Int64).toInt32) - 16)), (0, .ref (w.2.1 + 503))]) (st' := [.int v121]) (fun _ _ k => e_istore_n (ls' := [(2, .int v121), (1, .int (((S.2.1 516 ((S.1 503 20).toNatClampNeg) : Int64).toInt32) - 16)), (0, .ref (w.2.1 + 503))]) dX12_aggregate_59 (by decide) rfl (e_iload_n dX12_aggregate_60 0 rfl k)) ?_
      refine es_br (c := 0 ≤ v121) (tgt := 66) (pf := 64) (st' := []) (fun _ _ a b => e_if_ge dX12_aggregate_61 rfl a b) (fun c122 => ?_) (fun c122 => ?_)
      · rw [if_pos c122] at hf
        refine es_l (pc' := 69) (ls' := [(3, .int 0), (2, .int v121), (1, .int (((S.2.1 516 ((S.1 503 20).toNatClampNeg) : Int64).toInt32) - 16)), (0, .ref (w.2.1 + 503))]) (st' := [.int (((S.2.1 516 ((S.1 503 20).toNatClampNeg) : Int64).toInt32) - 16)]) (fun _ _ k => e_iconst (v := 0) dX12_aggregate_66 (by decide) (e_istore_n (ls' := [(3, .int 0), (2, .int v121), (1, .int (((S.2.1 516 ((S.1 503 20).toNatClampNeg) : Int64).toInt32) - 16)), (0, .ref (w.2.1 + 503))]) dX12_aggregate_67 (by decide) rfl (e_iload_n dX12_aggregate_68 2 rfl k))) ?_
        refine es_br (c := (((S.2.1 516 ((S.1 503 20).toNatClampNeg) : Int64).toInt32) - 16) ≤ 0) (tgt := 95) (pf := 72) (st' := []) (fun _ _ a b => e_if_le dX12_aggregate_69 rfl a b) (fun c123 => ?_) (fun c123 => ?_)
        · rw [if_pos c123] at hf
          refine es_sub [3, 2, 1, 0] rfl ?_
          exact t_X12_aggregate_95 N (((S.2.1 516 ((S.1 503 20).toNatClampNeg) : Int64).toInt32) - 16) v121 0 S120 r hf
        · rw [if_neg c123] at hf
          refine es_l (pc' := 75) (ls' := [(3, .int 0), (2, .int v121), (1, .int (((S.2.1 516 ((S.1 503 20).toNatClampNeg) : Int64).toInt32) - 16)), (0, .ref (w.2.1 + 503))]) (st' := [.int 46, .ref (w.2.1 + 503)]) (fun _ _ k => e_aload_n dX12_aggregate_72 3 rfl (e_bipush (v := 46) dX12_aggregate_73 (by decide) k)) ?_
          refine es_callVI (as := [.int 46]) (rest := []) hf xc_12 dX12_aggregate_75 cs_X12_aggregate_X12_sign ml_X12_299 im_X12_sign se_X12_sign rfl rfl (Nat.le_of_ble_eq_true rfl) (Nat.le_of_ble_eq_true rfl) (by decide) rfl (cel_503 _ _ _) (fun _ e => t_X12_sign N 46 S120 _ e) (by decide) (fun v125 S124 hf => ?_)
          refine es_br (c := v125 = 0) (tgt := 81) (pf := 83) (st' := []) (fun _ _ a b => e_if_ne dX12_aggregate_78 rfl b a) (fun c126 => ?_) (fun c126 => ?_)
          · rw [if_pos c126] at hf
            refine es_l (pc' := 82) (ls' := [(3, .int 0), (2, .int v121), (1, .int (((S.2.1 516 ((S.1 503 20).toNatClampNeg) : Int64).toInt32) - 16)), (0, .ref (w.2.1 + 503))]) (st' := [.int 0]) (fun _ _ k => e_iconst (v := 0) dX12_aggregate_81 (by decide) k) ?_
            exact es_ireturn (ty := .boolean) dX12_aggregate_82 rfl rfl hf
          · rw [if_neg c126] at hf
            refine es_l (pc' := 85) (ls' := [(3, .int 0), (2, .int v121), (1, .int (((S.2.1 516 ((S.1 503 20).toNatClampNeg) : Int64).toInt32) - 16)), (0, .ref (w.2.1 + 503))]) (st' := [.int v121, .ref (w.2.1 + 503)]) (fun _ _ k => e_aload_n dX12_aggregate_83 3 rfl (e_iload_n dX12_aggregate_84 1 rfl k)) ?_
            refine es_callVI (as := [.int v121]) (rest := []) hf xc_12 dX12_aggregate_85 cs_X12_aggregate_X12_takeField ml_X12_302 im_X12_takeField se_X12_takeField rfl rfl (Nat.le_of_ble_eq_true rfl) (Nat.le_of_ble_eq_true rfl) (by decide) rfl (cel_503 _ _ _) (fun _ e => t_X12_takeField N v121 S124 _ e) (by decide) (fun v128 S127 hf => ?_)
            refine es_l (pc' := 90) (ls' := [(3, .int v128), (2, .int v121), (1, .int (((S.2.1 516 ((S.1 503 20).toNatClampNeg) : Int64).toInt32) - 16)), (0, .ref (w.2.1 + 503))]) (st' := [.int v128]) (fun _ _ k => e_istore_n (ls' := [(3, .int v128), (2, .int v121), (1, .int (((S.2.1 516 ((S.1 503 20).toNatClampNeg) : Int64).toInt32) - 16)), (0, .ref (w.2.1 + 503))]) dX12_aggregate_88 (by decide) rfl (e_iload_n dX12_aggregate_89 0 rfl k)) ?_
            refine es_br (c := 0 ≤ v128) (tgt := 95) (pf := 93) (st' := []) (fun _ _ a b => e_if_ge dX12_aggregate_90 rfl a b) (fun c129 => ?_) (fun c129 => ?_)
            · rw [if_pos c129] at hf
              refine es_sub [3, 2, 1, 0] rfl ?_
              exact t_X12_aggregate_95 N (((S.2.1 516 ((S.1 503 20).toNatClampNeg) : Int64).toInt32) - 16) v121 v128 S127 r hf
            · rw [if_neg c129] at hf
              refine es_l (pc' := 94) (ls' := [(3, .int v128), (2, .int v121), (1, .int (((S.2.1 516 ((S.1 503 20).toNatClampNeg) : Int64).toInt32) - 16)), (0, .ref (w.2.1 + 503))]) (st' := [.int 0]) (fun _ _ k => e_iconst (v := 0) dX12_aggregate_93 (by decide) k) ?_
              exact es_ireturn (ty := .boolean) dX12_aggregate_94 rfl rfl hf
      · rw [if_neg c122] at hf
        refine es_l (pc' := 65) (ls' := [(2, .int v121), (1, .int (((S.2.1 516 ((S.1 503 20).toNatClampNeg) : Int64).toInt32) - 16)), (0, .ref (w.2.1 + 503))]) (st' := [.int 0]) (fun _ _ k => e_iconst (v := 0) dX12_aggregate_64 (by decide) k) ?_
        exact es_ireturn (ty := .boolean) dX12_aggregate_65 rfl rfl hf
def f_X12_operand_391 (N : Nat)  (s0 : Int32) (S : xS) : Option xr :=
  if xbo s0 then
  some (.inl (some (.inl s0)), S)
  else none
set_option maxRecDepth 100000 in
set_option maxHeartbeats 4000000 in
theorem t_X12_operand_391 {l : Launch} {w : xW} {g : Nat → xE} (N : Nat)   (s0 : Int32) (S : xS) (r : xr) (hf : f_X12_operand_391 N  s0 S = some r) : ES l w g M_X12_operand 391 [] [.int s0] S r := by
  unfold f_X12_operand_391 at hf
  obtain ⟨g191, hf⟩ := xg hf
  exact es_ireturn (ty := .boolean) dX12_operand_391 rfl (xbo_n g191) hf
def f_X12_operand_319 (N : Nat)  (s0 : Int32) (S : xS) : Option xr :=
  if xbo s0 then
  some (.inl (some (.inl s0)), S)
  else none
set_option maxRecDepth 100000 in
set_option maxHeartbeats 4000000 in
theorem t_X12_operand_319 {l : Launch} {w : xW} {g : Nat → xE} (N : Nat)   (s0 : Int32) (S : xS) (r : xr) (hf : f_X12_operand_319 N  s0 S = some r) : ES l w g M_X12_operand 319 [] [.int s0] S r := by
  unfold f_X12_operand_319 at hf
  obtain ⟨g192, hf⟩ := xg hf
  exact es_ireturn (ty := .boolean) dX12_operand_319 rfl (xbo_n g192) hf
def f_X12_operand_274 (N : Nat)   (S : xS) : Option xr :=
  if xin (S.1 503 20) 152 then
  xcI (f_X12_kindOf N (S.2.1 516 ((S.1 503 20).toNatClampNeg)) S) (fun v195 S194 =>
  if 0 ≤ v195 then
    xcI (f_X12_levelOf N v195 S194) (fun v198 S197 =>
    if 0 ≤ v198 then
      xcI (f_X12_sign N 46 (sI S197 503 20 ((S197.1 503 20) + 1))) (fun v201 S200 =>
      if v201 = 0 then
        some (.inl (some (.inl 0)), S200)
      else
        xcI (f_X12_takeField N v195 S200) (fun v204 S203 =>
        xcV (f_X12_emit N 4 S203) (fun S205 =>
        xcI (f_X12_levelOf N v195 S205) (fun v208 S207 =>
        xcV (f_X12_emit N v208 S207) (fun S209 =>
        xcV (f_X12_emit N v204 S209) (fun S211 =>
        if v204 < 0 then
          f_X12_operand_391 N 0 S211
        else
          f_X12_operand_391 N 1 S211
        )
        )
        )
        )
        )
      )
    else
      xcI (f_X12_wrong N S197) (fun v215 S214 =>
      if xbo v215 then
      some (.inl (some (.inl v215)), S214)
      else none
      )
    )
  else
    xcI (f_X12_takeVariable N S194) (fun v218 S217 =>
    xcV (f_X12_emit N 2 S217) (fun S219 =>
    xcV (f_X12_emit N v218 S219) (fun S221 =>
    if v218 < 0 then
      f_X12_operand_319 N 0 S221
    else
      f_X12_operand_319 N 1 S221
    )
    )
    )
  )
  else none
set_option maxRecDepth 100000 in
set_option maxHeartbeats 4000000 in
theorem t_X12_operand_274 {l : Launch} {w : xW} {g : Nat → xE} (N : Nat)    (S : xS) (r : xr) (hf : f_X12_operand_274 N   S = some r) : ES l w g M_X12_operand 274 [(0, .ref (w.2.1 + 503))] [] S r := by
  unfold f_X12_operand_274 at hf
  refine es_l (pc' := 276) (ls' := [(0, .ref (w.2.1 + 503))]) (st' := [.ref (w.2.1 + 503), .ref (w.2.1 + 503)]) (fun _ _ k => e_aload_n dX12_operand_274 0 rfl (e_aload_n dX12_operand_275 0 rfl k)) ?_
  refine es_get (v := .ref (w.2.1 + 516)) xc_12 dX12_operand_276 fl_X12_63 (by decide) (by decide) (cel_503 _ _ _) rfl ?_
  refine es_l (pc' := 280) (ls' := [(0, .ref (w.2.1 + 503))]) (st' := [.ref (w.2.1 + 503), .ref (w.2.1 + 516), .ref (w.2.1 + 503)]) (fun _ _ k => e_aload_n dX12_operand_279 0 rfl k) ?_
  refine es_get (v := .int (S.1 503 20)) xc_12 dX12_operand_280 fl_X12_72 (by decide) (by decide) (cel_503 _ _ _) rfl ?_
  obtain ⟨g193, hf⟩ := xg hf
  refine es_lald (v := .long (S.2.1 516 ((S.1 503 20).toNatClampNeg))) dX12_operand_283 (by decide) (cel_516 _ _ _) g193 rfl ?_
  refine es_callVI (as := [.long (S.2.1 516 ((S.1 503 20).toNatClampNeg))]) (rest := []) hf xc_12 dX12_operand_284 cs_X12_operand_X12_kindOf ml_X12_242 im_X12_kindOf se_X12_kindOf rfl rfl (Nat.le_of_ble_eq_true rfl) (Nat.le_of_ble_eq_true rfl) (by decide) rfl (cel_503 _ _ _) (fun _ e => t_X12_kindOf N (S.2.1 516 ((S.1 503 20).toNatClampNeg)) S _ e) (by decide) (fun v195 S194 hf => ?_)
  refine es_l (pc' := 289) (ls' := [(3, .int v195), (0, .ref (w.2.1 + 503))]) (st' := [.int v195]) (fun _ _ k => e_istore_n (ls' := [(3, .int v195), (0, .ref (w.2.1 + 503))]) dX12_operand_287 (by decide) rfl (e_iload_n dX12_operand_288 0 rfl k)) ?_
  refine es_br (c := 0 ≤ v195) (tgt := 320) (pf := 292) (st' := []) (fun _ _ a b => e_if_ge dX12_operand_289 rfl a b) (fun c196 => ?_) (fun c196 => ?_)
  · rw [if_pos c196] at hf
    refine es_l (pc' := 322) (ls' := [(3, .int v195), (0, .ref (w.2.1 + 503))]) (st' := [.int v195, .ref (w.2.1 + 503)]) (fun _ _ k => e_aload_n dX12_operand_320 1 rfl (e_iload_n dX12_operand_321 0 rfl k)) ?_
    refine es_callVI (as := [.int v195]) (rest := []) hf xc_12 dX12_operand_322 cs_X12_operand_X12_levelOf ml_X12_296 im_X12_levelOf se_X12_levelOf rfl rfl (Nat.le_of_ble_eq_true rfl) (Nat.le_of_ble_eq_true rfl) (by decide) rfl (cel_503 _ _ _) (fun _ e => t_X12_levelOf N v195 S194 _ e) (by decide) (fun v198 S197 hf => ?_)
    refine es_br (c := 0 ≤ v198) (tgt := 333) (pf := 328) (st' := []) (fun _ _ a b => e_if_ge dX12_operand_325 rfl a b) (fun c199 => ?_) (fun c199 => ?_)
    · rw [if_pos c199] at hf
      refine es_l (pc' := 335) (ls' := [(3, .int v195), (0, .ref (w.2.1 + 503))]) (st' := [.ref (w.2.1 + 503), .ref (w.2.1 + 503)]) (fun _ _ k => e_aload_n dX12_operand_333 1 rfl (e_dup dX12_operand_334 rfl k)) ?_
      refine es_get (v := .int (S197.1 503 20)) xc_12 dX12_operand_335 fl_X12_72 (by decide) (by decide) (cel_503 _ _ _) rfl ?_
      refine es_l (pc' := 340) (ls' := [(3, .int v195), (0, .ref (w.2.1 + 503))]) (st' := [.int ((S197.1 503 20) + 1), .ref (w.2.1 + 503)]) (fun _ _ k => e_iconst (v := 1) dX12_operand_338 (by decide) (e_iadd dX12_operand_339 k)) ?_
      refine es_put xc_12 dX12_operand_340 fl_X12_72 (by decide) (by decide) (by decide) (cel_503 _ _ _) rfl rfl rfl rfl ?_
      refine es_l (pc' := 346) (ls' := [(3, .int v195), (0, .ref (w.2.1 + 503))]) (st' := [.int 46, .ref (w.2.1 + 503)]) (fun _ _ k => e_aload_n dX12_operand_343 1 rfl (e_bipush (v := 46) dX12_operand_344 (by decide) k)) ?_
      refine es_callVI (as := [.int 46]) (rest := []) hf xc_12 dX12_operand_346 cs_X12_operand_X12_sign ml_X12_299 im_X12_sign se_X12_sign rfl rfl (Nat.le_of_ble_eq_true rfl) (Nat.le_of_ble_eq_true rfl) (by decide) rfl (cel_503 _ _ _) (fun _ e => t_X12_sign N 46 (sI S197 503 20 ((S197.1 503 20) + 1)) _ e) (by decide) (fun v201 S200 hf => ?_)
      refine es_br (c := v201 = 0) (tgt := 352) (pf := 354) (st' := []) (fun _ _ a b => e_if_ne dX12_operand_349 rfl b a) (fun c202 => ?_) (fun c202 => ?_)
      · rw [if_pos c202] at hf
        refine es_l (pc' := 353) (ls' := [(3, .int v195), (0, .ref (w.2.1 + 503))]) (st' := [.int 0]) (fun _ _ k => e_iconst (v := 0) dX12_operand_352 (by decide) k) ?_
        exact es_ireturn (ty := .boolean) dX12_operand_353 rfl rfl hf
      · rw [if_neg c202] at hf
        refine es_l (pc' := 356) (ls' := [(3, .int v195), (0, .ref (w.2.1 + 503))]) (st' := [.int v195, .ref (w.2.1 + 503)]) (fun _ _ k => e_aload_n dX12_operand_354 1 rfl (e_iload_n dX12_operand_355 0 rfl k)) ?_
        refine es_callVI (as := [.int v195]) (rest := []) hf xc_12 dX12_operand_356 cs_X12_operand_X12_takeField ml_X12_302 im_X12_takeField se_X12_takeField rfl rfl (Nat.le_of_ble_eq_true rfl) (Nat.le_of_ble_eq_true rfl) (by decide) rfl (cel_503 _ _ _) (fun _ e => t_X12_takeField N v195 S200 _ e) (by decide) (fun v204 S203 hf => ?_)
        refine es_l (pc' := 363) (ls' := [(4, .int v204), (3, .int v195), (0, .ref (w.2.1 + 503))]) (st' := [.int 4, .ref (w.2.1 + 503)]) (fun _ _ k => e_istore (ls' := [(4, .int v204), (3, .int v195), (0, .ref (w.2.1 + 503))]) dX12_operand_359 (by decide) rfl (e_aload_n dX12_operand_361 2 rfl (e_iconst (v := 4) dX12_operand_362 (by decide) k))) ?_
        refine es_callVV (as := [.int 4]) (rest := []) hf xc_12 dX12_operand_363 cs_X12_operand_X12_emit ml_X12_278 im_X12_emit se_X12_emit rfl rfl (Nat.le_of_ble_eq_true rfl) (Nat.le_of_ble_eq_true rfl) (by decide) rfl (cel_503 _ _ _) (fun _ e => t_X12_emit N 4 S203 _ e) (by decide) (fun S205 hf => ?_)
        refine es_l (pc' := 369) (ls' := [(4, .int v204), (3, .int v195), (0, .ref (w.2.1 + 503))]) (st' := [.int v195, .ref (w.2.1 + 503), .ref (w.2.1 + 503)]) (fun _ _ k => e_aload_n dX12_operand_366 2 rfl (e_aload_n dX12_operand_367 2 rfl (e_iload_n dX12_operand_368 1 rfl k))) ?_
        refine es_callVI (as := [.int v195]) (rest := [.ref (w.2.1 + 503)]) hf xc_12 dX12_operand_369 cs_X12_operand_X12_levelOf ml_X12_296 im_X12_levelOf se_X12_levelOf rfl rfl (Nat.le_of_ble_eq_true rfl) (Nat.le_of_ble_eq_true rfl) (by decide) rfl (cel_503 _ _ _) (fun _ e => t_X12_levelOf N v195 S205 _ e) (by decide) (fun v208 S207 hf => ?_)
        refine es_callVV (as := [.int v208]) (rest := []) hf xc_12 dX12_operand_372 cs_X12_operand_X12_emit ml_X12_278 im_X12_emit se_X12_emit rfl rfl (Nat.le_of_ble_eq_true rfl) (Nat.le_of_ble_eq_true rfl) (by decide) rfl (cel_503 _ _ _) (fun _ e => t_X12_emit N v208 S207 _ e) (by decide) (fun S209 hf => ?_)
        refine es_l (pc' := 378) (ls' := [(4, .int v204), (3, .int v195), (0, .ref (w.2.1 + 503))]) (st' := [.int v204, .ref (w.2.1 + 503)]) (fun _ _ k => e_aload_n dX12_operand_375 2 rfl (e_iload dX12_operand_376 0 rfl k)) ?_
        refine es_callVV (as := [.int v204]) (rest := []) hf xc_12 dX12_operand_378 cs_X12_operand_X12_emit ml_X12_278 im_X12_emit se_X12_emit rfl rfl (Nat.le_of_ble_eq_true rfl) (Nat.le_of_ble_eq_true rfl) (by decide) rfl (cel_503 _ _ _) (fun _ e => t_X12_emit N v204 S209 _ e) (by decide) (fun S211 hf => ?_)
        refine es_l (pc' := 383) (ls' := [(4, .int v204), (3, .int v195), (0, .ref (w.2.1 + 503))]) (st' := [.int v204]) (fun _ _ k => e_iload dX12_operand_381 0 rfl k) ?_
        refine es_br (c := v204 < 0) (tgt := 390) (pf := 386) (st' := []) (fun _ _ a b => e_if_lt dX12_operand_383 rfl a b) (fun c213 => ?_) (fun c213 => ?_)
        · rw [if_pos c213] at hf
          refine es_l (pc' := 391) (ls' := [(4, .int v204), (3, .int v195), (0, .ref (w.2.1 + 503))]) (st' := [.int 0]) (fun _ _ k => e_iconst (v := 0) dX12_operand_390 (by decide) k) ?_
          refine es_sub [] rfl ?_
          exact t_X12_operand_391 N 0 S211 r hf
        · rw [if_neg c213] at hf
          refine es_l (pc' := 391) (ls' := [(4, .int v204), (3, .int v195), (0, .ref (w.2.1 + 503))]) (st' := [.int 1]) (fun _ _ k => e_iconst (v := 1) dX12_operand_386 (by decide) (e_goto (tgt := 391) dX12_operand_387 rfl k)) ?_
          refine es_sub [] rfl ?_
          exact t_X12_operand_391 N 1 S211 r hf
    · rw [if_neg c199] at hf
      refine es_l (pc' := 329) (ls' := [(3, .int v195), (0, .ref (w.2.1 + 503))]) (st' := [.ref (w.2.1 + 503)]) (fun _ _ k => e_aload_n dX12_operand_328 1 rfl k) ?_
      refine es_callVI (as := []) (rest := []) hf xc_12 dX12_operand_329 cs_X12_operand_X12_wrong ml_X12_235 im_X12_wrong se_X12_wrong rfl rfl (Nat.le_of_ble_eq_true rfl) (Nat.le_of_ble_eq_true rfl) (by decide) rfl (cel_503 _ _ _) (fun _ e => t_X12_wrong N  S197 _ e) (by decide) (fun v215 S214 hf => ?_)
      obtain ⟨g216, hf⟩ := xg hf
      exact es_ireturn (ty := .boolean) dX12_operand_332 rfl (xbo_n g216) hf
  · rw [if_neg c196] at hf
    refine es_l (pc' := 293) (ls' := [(3, .int v195), (0, .ref (w.2.1 + 503))]) (st' := [.ref (w.2.1 + 503)]) (fun _ _ k => e_aload_n dX12_operand_292 1 rfl k) ?_
    refine es_callVI (as := []) (rest := []) hf xc_12 dX12_operand_293 cs_X12_operand_X12_takeVariable ml_X12_293 im_X12_takeVariable se_X12_takeVariable rfl rfl (Nat.le_of_ble_eq_true rfl) (Nat.le_of_ble_eq_true rfl) (by decide) rfl (cel_503 _ _ _) (fun _ e => t_X12_takeVariable N  S194 _ e) (by decide) (fun v218 S217 hf => ?_)
    refine es_l (pc' := 300) (ls' := [(4, .int v218), (3, .int v195), (0, .ref (w.2.1 + 503))]) (st' := [.int 2, .ref (w.2.1 + 503)]) (fun _ _ k => e_istore (ls' := [(4, .int v218), (3, .int v195), (0, .ref (w.2.1 + 503))]) dX12_operand_296 (by decide) rfl (e_aload_n dX12_operand_298 2 rfl (e_iconst (v := 2) dX12_operand_299 (by decide) k))) ?_
    refine es_callVV (as := [.int 2]) (rest := []) hf xc_12 dX12_operand_300 cs_X12_operand_X12_emit ml_X12_278 im_X12_emit se_X12_emit rfl rfl (Nat.le_of_ble_eq_true rfl) (Nat.le_of_ble_eq_true rfl) (by decide) rfl (cel_503 _ _ _) (fun _ e => t_X12_emit N 2 S217 _ e) (by decide) (fun S219 hf => ?_)
    refine es_l (pc' := 306) (ls' := [(4, .int v218), (3, .int v195), (0, .ref (w.2.1 + 503))]) (st' := [.int v218, .ref (w.2.1 + 503)]) (fun _ _ k => e_aload_n dX12_operand_303 2 rfl (e_iload dX12_operand_304 0 rfl k)) ?_
    refine es_callVV (as := [.int v218]) (rest := []) hf xc_12 dX12_operand_306 cs_X12_operand_X12_emit ml_X12_278 im_X12_emit se_X12_emit rfl rfl (Nat.le_of_ble_eq_true rfl) (Nat.le_of_ble_eq_true rfl) (by decide) rfl (cel_503 _ _ _) (fun _ e => t_X12_emit N v218 S219 _ e) (by decide) (fun S221 hf => ?_)
    refine es_l (pc' := 311) (ls' := [(4, .int v218), (3, .int v195), (0, .ref (w.2.1 + 503))]) (st' := [.int v218]) (fun _ _ k => e_iload dX12_operand_309 0 rfl k) ?_
    refine es_br (c := v218 < 0) (tgt := 318) (pf := 314) (st' := []) (fun _ _ a b => e_if_lt dX12_operand_311 rfl a b) (fun c223 => ?_) (fun c223 => ?_)
    · rw [if_pos c223] at hf
      refine es_l (pc' := 319) (ls' := [(4, .int v218), (3, .int v195), (0, .ref (w.2.1 + 503))]) (st' := [.int 0]) (fun _ _ k => e_iconst (v := 0) dX12_operand_318 (by decide) k) ?_
      refine es_sub [] rfl ?_
      exact t_X12_operand_319 N 0 S221 r hf
    · rw [if_neg c223] at hf
      refine es_l (pc' := 319) (ls' := [(4, .int v218), (3, .int v195), (0, .ref (w.2.1 + 503))]) (st' := [.int 1]) (fun _ _ k => e_iconst (v := 1) dX12_operand_314 (by decide) (e_goto (tgt := 319) dX12_operand_315 rfl k)) ?_
      refine es_sub [] rfl ?_
      exact t_X12_operand_319 N 1 S221 r hf
def f_X12_operand_191 (N : Nat)   (S : xS) : Option xr :=
  if xin (S.1 503 20) 152 then
  if (S.1 514 ((S.1 503 20).toNatClampNeg)) = 1 then
    if (S.1 503 29) < 0 then
      f_X12_operand_274 N S
    else
      xcI (f_X12_fieldOf N (S.1 503 29) (S.2.1 516 ((S.1 503 20).toNatClampNeg)) S) (fun v228 S227 =>
      if v228 < 0 then
        f_X12_operand_274 N S227
      else
        xcV (f_X12_emit N 3 S227) (fun S230 =>
        if xin (S230.1 503 20) 152 then
        xcI (f_X12_fieldOf N (S230.1 503 29) (S230.2.1 516 ((S230.1 503 20).toNatClampNeg)) S230) (fun v234 S233 =>
        xcV (f_X12_emit N v234 S233) (fun S235 =>
        some (.inl (some (.inl 1)), sI S235 503 20 ((S235.1 503 20) + 1))
        )
        )
        else none
        )
      )
  else
    xcI (f_X12_wrong N S) (fun v238 S237 =>
    if xbo v238 then
    some (.inl (some (.inl v238)), S237)
    else none
    )
  else none
set_option maxRecDepth 100000 in
set_option maxHeartbeats 4000000 in
theorem t_X12_operand_191 {l : Launch} {w : xW} {g : Nat → xE} (N : Nat)    (S : xS) (r : xr) (hf : f_X12_operand_191 N   S = some r) : ES l w g M_X12_operand 191 [(0, .ref (w.2.1 + 503))] [] S r := by
  unfold f_X12_operand_191 at hf
  refine es_l (pc' := 192) (ls' := [(0, .ref (w.2.1 + 503))]) (st' := [.ref (w.2.1 + 503)]) (fun _ _ k => e_aload_n dX12_operand_191 0 rfl k) ?_
  refine es_get (v := .ref (w.2.1 + 514)) xc_12 dX12_operand_192 fl_X12_57 (by decide) (by decide) (cel_503 _ _ _) rfl ?_
  refine es_l (pc' := 196) (ls' := [(0, .ref (w.2.1 + 503))]) (st' := [.ref (w.2.1 + 503), .ref (w.2.1 + 514)]) (fun _ _ k => e_aload_n dX12_operand_195 0 rfl k) ?_
  refine es_get (v := .int (S.1 503 20)) xc_12 dX12_operand_196 fl_X12_72 (by decide) (by decide) (cel_503 _ _ _) rfl ?_
  obtain ⟨g224, hf⟩ := xg hf
  refine es_iald (v := .int (S.1 514 ((S.1 503 20).toNatClampNeg))) dX12_operand_199 (by decide) (cel_514 _ _ _) g224 rfl ?_
  refine es_l (pc' := 201) (ls' := [(0, .ref (w.2.1 + 503))]) (st' := [.int 1, .int (S.1 514 ((S.1 503 20).toNatClampNeg))]) (fun _ _ k => e_iconst (v := 1) dX12_operand_200 (by decide) k) ?_
  refine es_br (c := (S.1 514 ((S.1 503 20).toNatClampNeg)) = 1) (tgt := 209) (pf := 204) (st' := []) (fun _ _ a b => e_icmp_eq dX12_operand_201 rfl a b) (fun c225 => ?_) (fun c225 => ?_)
  · rw [if_pos c225] at hf
    refine es_l (pc' := 210) (ls' := [(0, .ref (w.2.1 + 503))]) (st' := [.ref (w.2.1 + 503)]) (fun _ _ k => e_aload_n dX12_operand_209 0 rfl k) ?_
    refine es_get (v := .int (S.1 503 29)) xc_12 dX12_operand_210 fl_X12_100 (by decide) (by decide) (cel_503 _ _ _) rfl ?_
    refine es_br (c := (S.1 503 29) < 0) (tgt := 274) (pf := 216) (st' := []) (fun _ _ a b => e_if_lt dX12_operand_213 rfl a b) (fun c226 => ?_) (fun c226 => ?_)
    · rw [if_pos c226] at hf
      exact t_X12_operand_274 N S r hf
    · rw [if_neg c226] at hf
      refine es_l (pc' := 218) (ls' := [(0, .ref (w.2.1 + 503))]) (st' := [.ref (w.2.1 + 503), .ref (w.2.1 + 503)]) (fun _ _ k => e_aload_n dX12_operand_216 0 rfl (e_aload_n dX12_operand_217 0 rfl k)) ?_
      refine es_get (v := .int (S.1 503 29)) xc_12 dX12_operand_218 fl_X12_100 (by decide) (by decide) (cel_503 _ _ _) rfl ?_
      refine es_l (pc' := 222) (ls' := [(0, .ref (w.2.1 + 503))]) (st' := [.ref (w.2.1 + 503), .int (S.1 503 29), .ref (w.2.1 + 503)]) (fun _ _ k => e_aload_n dX12_operand_221 0 rfl k) ?_
      refine es_get (v := .ref (w.2.1 + 516)) xc_12 dX12_operand_222 fl_X12_63 (by decide) (by decide) (cel_503 _ _ _) rfl ?_
      refine es_l (pc' := 226) (ls' := [(0, .ref (w.2.1 + 503))]) (st' := [.ref (w.2.1 + 503), .ref (w.2.1 + 516), .int (S.1 503 29), .ref (w.2.1 + 503)]) (fun _ _ k => e_aload_n dX12_operand_225 0 rfl k) ?_
      refine es_get (v := .int (S.1 503 20)) xc_12 dX12_operand_226 fl_X12_72 (by decide) (by decide) (cel_503 _ _ _) rfl ?_
      refine es_lald (v := .long (S.2.1 516 ((S.1 503 20).toNatClampNeg))) dX12_operand_229 (by decide) (cel_516 _ _ _) g224 rfl ?_
      refine es_callVI (as := [.int (S.1 503 29), .long (S.2.1 516 ((S.1 503 20).toNatClampNeg))]) (rest := []) hf xc_12 dX12_operand_230 cs_X12_operand_X12_fieldOf ml_X12_246 im_X12_fieldOf se_X12_fieldOf rfl rfl (Nat.le_of_ble_eq_true rfl) (Nat.le_of_ble_eq_true rfl) (by decide) rfl (cel_503 _ _ _) (fun _ e => t_X12_fieldOf N (S.1 503 29) (S.2.1 516 ((S.1 503 20).toNatClampNeg)) S _ e) (by decide) (fun v228 S227 hf => ?_)
      refine es_br (c := v228 < 0) (tgt := 274) (pf := 236) (st' := []) (fun _ _ a b => e_if_lt dX12_operand_233 rfl a b) (fun c229 => ?_) (fun c229 => ?_)
      · rw [if_pos c229] at hf
        exact t_X12_operand_274 N S227 r hf
      · rw [if_neg c229] at hf
        refine es_l (pc' := 238) (ls' := [(0, .ref (w.2.1 + 503))]) (st' := [.int 3, .ref (w.2.1 + 503)]) (fun _ _ k => e_aload_n dX12_operand_236 0 rfl (e_iconst (v := 3) dX12_operand_237 (by decide) k)) ?_
        refine es_callVV (as := [.int 3]) (rest := []) hf xc_12 dX12_operand_238 cs_X12_operand_X12_emit ml_X12_278 im_X12_emit se_X12_emit rfl rfl (Nat.le_of_ble_eq_true rfl) (Nat.le_of_ble_eq_true rfl) (by decide) rfl (cel_503 _ _ _) (fun _ e => t_X12_emit N 3 S227 _ e) (by decide) (fun S230 hf => ?_)
        refine es_l (pc' := 244) (ls' := [(0, .ref (w.2.1 + 503))]) (st' := [.ref (w.2.1 + 503), .ref (w.2.1 + 503), .ref (w.2.1 + 503)]) (fun _ _ k => e_aload_n dX12_operand_241 0 rfl (e_aload_n dX12_operand_242 0 rfl (e_aload_n dX12_operand_243 0 rfl k))) ?_
        refine es_get (v := .int (S230.1 503 29)) xc_12 dX12_operand_244 fl_X12_100 (by decide) (by decide) (cel_503 _ _ _) rfl ?_
        refine es_l (pc' := 248) (ls' := [(0, .ref (w.2.1 + 503))]) (st' := [.ref (w.2.1 + 503), .int (S230.1 503 29), .ref (w.2.1 + 503), .ref (w.2.1 + 503)]) (fun _ _ k => e_aload_n dX12_operand_247 0 rfl k) ?_
        refine es_get (v := .ref (w.2.1 + 516)) xc_12 dX12_operand_248 fl_X12_63 (by decide) (by decide) (cel_503 _ _ _) rfl ?_
        refine es_l (pc' := 252) (ls' := [(0, .ref (w.2.1 + 503))]) (st' := [.ref (w.2.1 + 503), .ref (w.2.1 + 516), .int (S230.1 503 29), .ref (w.2.1 + 503), .ref (w.2.1 + 503)]) (fun _ _ k => e_aload_n dX12_operand_251 0 rfl k) ?_
        refine es_get (v := .int (S230.1 503 20)) xc_12 dX12_operand_252 fl_X12_72 (by decide) (by decide) (cel_503 _ _ _) rfl ?_
        obtain ⟨g232, hf⟩ := xg hf
        refine es_lald (v := .long (S230.2.1 516 ((S230.1 503 20).toNatClampNeg))) dX12_operand_255 (by decide) (cel_516 _ _ _) g232 rfl ?_
        refine es_callVI (as := [.int (S230.1 503 29), .long (S230.2.1 516 ((S230.1 503 20).toNatClampNeg))]) (rest := [.ref (w.2.1 + 503)]) hf xc_12 dX12_operand_256 cs_X12_operand_X12_fieldOf ml_X12_246 im_X12_fieldOf se_X12_fieldOf rfl rfl (Nat.le_of_ble_eq_true rfl) (Nat.le_of_ble_eq_true rfl) (by decide) rfl (cel_503 _ _ _) (fun _ e => t_X12_fieldOf N (S230.1 503 29) (S230.2.1 516 ((S230.1 503 20).toNatClampNeg)) S230 _ e) (by decide) (fun v234 S233 hf => ?_)
        refine es_callVV (as := [.int v234]) (rest := []) hf xc_12 dX12_operand_259 cs_X12_operand_X12_emit ml_X12_278 im_X12_emit se_X12_emit rfl rfl (Nat.le_of_ble_eq_true rfl) (Nat.le_of_ble_eq_true rfl) (by decide) rfl (cel_503 _ _ _) (fun _ e => t_X12_emit N v234 S233 _ e) (by decide) (fun S235 hf => ?_)
        refine es_l (pc' := 264) (ls' := [(0, .ref (w.2.1 + 503))]) (st' := [.ref (w.2.1 + 503), .ref (w.2.1 + 503)]) (fun _ _ k => e_aload_n dX12_operand_262 0 rfl (e_dup dX12_operand_263 rfl k)) ?_
        refine es_get (v := .int (S235.1 503 20)) xc_12 dX12_operand_264 fl_X12_72 (by decide) (by decide) (cel_503 _ _ _) rfl ?_
        refine es_l (pc' := 269) (ls' := [(0, .ref (w.2.1 + 503))]) (st' := [.int ((S235.1 503 20) + 1), .ref (w.2.1 + 503)]) (fun _ _ k => e_iconst (v := 1) dX12_operand_267 (by decide) (e_iadd dX12_operand_268 k)) ?_
        refine es_put xc_12 dX12_operand_269 fl_X12_72 (by decide) (by decide) (by decide) (cel_503 _ _ _) rfl rfl rfl rfl ?_
        refine es_l (pc' := 273) (ls' := [(0, .ref (w.2.1 + 503))]) (st' := [.int 1]) (fun _ _ k => e_iconst (v := 1) dX12_operand_272 (by decide) k) ?_
        exact es_ireturn (ty := .boolean) dX12_operand_273 rfl rfl hf
  · rw [if_neg c225] at hf
    refine es_l (pc' := 205) (ls' := [(0, .ref (w.2.1 + 503))]) (st' := [.ref (w.2.1 + 503)]) (fun _ _ k => e_aload_n dX12_operand_204 0 rfl k) ?_
    refine es_callVI (as := []) (rest := []) hf xc_12 dX12_operand_205 cs_X12_operand_X12_wrong ml_X12_235 im_X12_wrong se_X12_wrong rfl rfl (Nat.le_of_ble_eq_true rfl) (Nat.le_of_ble_eq_true rfl) (by decide) rfl (cel_503 _ _ _) (fun _ e => t_X12_wrong N  S _ e) (by decide) (fun v238 S237 hf => ?_)
    obtain ⟨g239, hf⟩ := xg hf
    exact es_ireturn (ty := .boolean) dX12_operand_208 rfl (xbo_n g239) hf
def f_X12_operand_190 (N : Nat)  (s0 : Int32) (S : xS) : Option xr :=
  if xbo s0 then
  some (.inl (some (.inl s0)), S)
  else none
set_option maxRecDepth 100000 in
set_option maxHeartbeats 4000000 in
theorem t_X12_operand_190 {l : Launch} {w : xW} {g : Nat → xE} (N : Nat)   (s0 : Int32) (S : xS) (r : xr) (hf : f_X12_operand_190 N  s0 S = some r) : ES l w g M_X12_operand 190 [] [.int s0] S r := by
  unfold f_X12_operand_190 at hf
  obtain ⟨g240, hf⟩ := xg hf
  exact es_ireturn (ty := .boolean) dX12_operand_190 rfl (xbo_n g240) hf
def f_X12_operand_142 (N : Nat)  (s0 : Int32) (S : xS) : Option xr :=
  if xbo s0 then
  some (.inl (some (.inl s0)), S)
  else none
set_option maxRecDepth 100000 in
set_option maxHeartbeats 4000000 in
theorem t_X12_operand_142 {l : Launch} {w : xW} {g : Nat → xE} (N : Nat)   (s0 : Int32) (S : xS) (r : xr) (hf : f_X12_operand_142 N  s0 S = some r) : ES l w g M_X12_operand 142 [] [.int s0] S r := by
  unfold f_X12_operand_142 at hf
  obtain ⟨g241, hf⟩ := xg hf
  exact es_ireturn (ty := .boolean) dX12_operand_142 rfl (xbo_n g241) hf
def f_X12_operand_113 (N : Nat)  (s0 : Int32) (S : xS) : Option xr :=
  if xbo s0 then
  some (.inl (some (.inl s0)), S)
  else none
set_option maxRecDepth 100000 in
set_option maxHeartbeats 4000000 in
theorem t_X12_operand_113 {l : Launch} {w : xW} {g : Nat → xE} (N : Nat)   (s0 : Int32) (S : xS) (r : xr) (hf : f_X12_operand_113 N  s0 S = some r) : ES l w g M_X12_operand 113 [] [.int s0] S r := by
  unfold f_X12_operand_113 at hf
  obtain ⟨g242, hf⟩ := xg hf
  exact es_ireturn (ty := .boolean) dX12_operand_113 rfl (xbo_n g242) hf
def f_X12_operand_91 (N : Nat)  (s0 : Int32) (S : xS) : Option xr :=
  xcI (f_X12_strength N s0 S) (fun v244 S243 =>
  if v244 ≤ 3 then
    xcI (f_X12_push N 6 S243) (fun v247 S246 =>
    f_X12_operand_113 N v247 S246
    )
  else
    xcI (f_X12_wrong N S243) (fun v249 S248 =>
    f_X12_operand_113 N v249 S248
    )
  )
set_option maxRecDepth 100000 in
set_option maxHeartbeats 4000000 in
theorem t_X12_operand_91 {l : Launch} {w : xW} {g : Nat → xE} (N : Nat)   (s0 : Int32) (S : xS) (r : xr) (hf : f_X12_operand_91 N  s0 S = some r) : ES l w g M_X12_operand 91 [(0, .ref (w.2.1 + 503))] [.int s0] S r := by
  unfold f_X12_operand_91 at hf
  refine es_l (pc' := 93) (ls' := [(3, .int s0), (0, .ref (w.2.1 + 503))]) (st' := [.int s0]) (fun _ _ k => e_istore_n (ls' := [(3, .int s0), (0, .ref (w.2.1 + 503))]) dX12_operand_91 (by decide) rfl (e_iload_n dX12_operand_92 0 rfl k)) ?_
  refine es_callSI (as := [.int s0]) (rest := []) hf dX12_operand_93 cs_X12_operand_X12_strength ml_X12_275 st_X12_strength rfl rfl (Nat.le_of_ble_eq_true rfl) (Nat.le_of_ble_eq_true rfl) (fun _ e => t_X12_strength N s0 S _ e) (by decide) (fun v244 S243 hf => ?_)
  refine es_l (pc' := 97) (ls' := [(3, .int s0), (0, .ref (w.2.1 + 503))]) (st' := [.int 3, .int v244]) (fun _ _ k => e_iconst (v := 3) dX12_operand_96 (by decide) k) ?_
  refine es_br (c := v244 ≤ 3) (tgt := 107) (pf := 100) (st' := []) (fun _ _ a b => e_icmp_le dX12_operand_97 rfl a b) (fun c245 => ?_) (fun c245 => ?_)
  · rw [if_pos c245] at hf
    refine es_l (pc' := 110) (ls' := [(3, .int s0), (0, .ref (w.2.1 + 503))]) (st' := [.int 6, .ref (w.2.1 + 503)]) (fun _ _ k => e_aload_n dX12_operand_107 1 rfl (e_bipush (v := 6) dX12_operand_108 (by decide) k)) ?_
    refine es_callVI (as := [.int 6]) (rest := []) hf xc_12 dX12_operand_110 cs_X12_operand_X12_push ml_X12_282 im_X12_push se_X12_push rfl rfl (Nat.le_of_ble_eq_true rfl) (Nat.le_of_ble_eq_true rfl) (by decide) rfl (cel_503 _ _ _) (fun _ e => t_X12_push N 6 S243 _ e) (by decide) (fun v247 S246 hf => ?_)
    refine es_sub [] rfl ?_
    exact t_X12_operand_113 N v247 S246 r hf
  · rw [if_neg c245] at hf
    refine es_l (pc' := 101) (ls' := [(3, .int s0), (0, .ref (w.2.1 + 503))]) (st' := [.ref (w.2.1 + 503)]) (fun _ _ k => e_aload_n dX12_operand_100 1 rfl k) ?_
    refine es_callVI (as := []) (rest := []) hf xc_12 dX12_operand_101 cs_X12_operand_X12_wrong ml_X12_235 im_X12_wrong se_X12_wrong rfl rfl (Nat.le_of_ble_eq_true rfl) (Nat.le_of_ble_eq_true rfl) (by decide) rfl (cel_503 _ _ _) (fun _ e => t_X12_wrong N  S243 _ e) (by decide) (fun v249 S248 hf => ?_)
    refine es_l (pc' := 113) (ls' := [(3, .int s0), (0, .ref (w.2.1 + 503))]) (st' := [.int v249]) (fun _ _ k => e_goto (tgt := 113) dX12_operand_104 rfl k) ?_
    refine es_sub [] rfl ?_
    exact t_X12_operand_113 N v249 S248 r hf
def f_X12_operand (N : Nat) (x1 : Int32) (x2 : Int32) (S : xS) : Option xr :=
  if xin (S.1 503 20) 152 then
  if (S.1 514 ((S.1 503 20).toNatClampNeg)) = 2 then
    xcV (f_X12_emit N 1 S) (fun S252 =>
    if xin (S252.1 503 20) 152 then
    xcV (f_X12_emit N ((S252.2.1 516 ((S252.1 503 20).toNatClampNeg) : Int64).toInt32) S252) (fun S255 =>
    some (.inl (some (.inl 1)), sI S255 503 20 ((S255.1 503 20) + 1))
    )
    else none
    )
  else
    xcI (f_X12_isSign N 45 S) (fun v258 S257 =>
    if v258 = 0 then
      xcI (f_X12_isWord N 15 S257) (fun v261 S260 =>
      if v261 = 0 then
        xcI (f_X12_isSign N 40 S260) (fun v264 S263 =>
        if v264 = 0 then
          if xin (S263.1 503 20) 152 then
          if (S263.1 514 ((S263.1 503 20).toNatClampNeg)) = 3 then
            if (lg_cmp (S263.2.1 516 ((S263.1 503 20).toNatClampNeg)) 16) < 0 then
              f_X12_operand_191 N S263
            else
              if (S263.1 503 29) < 0 then
                xcI (f_X12_aggregate N S263) (fun v271 S270 =>
                f_X12_operand_190 N v271 S270
                )
              else
                xcI (f_X12_wrong N S263) (fun v273 S272 =>
                f_X12_operand_190 N v273 S272
                )
          else
            f_X12_operand_191 N S263
          else none
        else
          xcI (f_X12_bracket N S263) (fun v275 S274 =>
          if v275 = 0 then
            xcI (f_X12_wrong N S274) (fun v278 S277 =>
            f_X12_operand_142 N v278 S277
            )
          else
            xcI (f_X12_push N 1 S274) (fun v280 S279 =>
            f_X12_operand_142 N v280 S279
            )
          )
        )
      else
        if (S260.1 503 28) ≤ x1 then
          f_X12_operand_91 N 0 S260
        else
          if xin ((S260.1 503 28) - 1) 160 then
          f_X12_operand_91 N (S260.1 519 (((S260.1 503 28) - 1).toNatClampNeg)) S260
          else none
      )
    else
      xcI (f_X12_push N 5 S257) (fun v284 S283 =>
      if xbo v284 then
      some (.inl (some (.inl v284)), S283)
      else none
      )
    )
  else none
set_option maxRecDepth 100000 in
set_option maxHeartbeats 4000000 in
theorem t_X12_operand {l : Launch} {w : xW} {g : Nat → xE} (N : Nat) (x1 : Int32) (x2 : Int32) (S : xS) (r : xr) (hf : f_X12_operand N x1 x2 S = some r) : ES l w g M_X12_operand 0 (lv_args 0 [.ref (w.2.1 + 503), .int x1, .int x2]) [] S r := by
  show ES l w g M_X12_operand 0 [(0, .ref (w.2.1 + 503)), (1, .int x1), (2, .int x2)] [] S r
  unfold f_X12_operand at hf
  refine es_l (pc' := 1) (ls' := [(0, .ref (w.2.1 + 503)), (1, .int x1), (2, .int x2)]) (st' := [.ref (w.2.1 + 503)]) (fun _ _ k => e_aload_n dX12_operand_0 0 rfl k) ?_
  refine es_get (v := .ref (w.2.1 + 514)) xc_12 dX12_operand_1 fl_X12_57 (by decide) (by decide) (cel_503 _ _ _) rfl ?_
  refine es_l (pc' := 5) (ls' := [(0, .ref (w.2.1 + 503)), (1, .int x1), (2, .int x2)]) (st' := [.ref (w.2.1 + 503), .ref (w.2.1 + 514)]) (fun _ _ k => e_aload_n dX12_operand_4 0 rfl k) ?_
  refine es_get (v := .int (S.1 503 20)) xc_12 dX12_operand_5 fl_X12_72 (by decide) (by decide) (cel_503 _ _ _) rfl ?_
  obtain ⟨g250, hf⟩ := xg hf
  refine es_iald (v := .int (S.1 514 ((S.1 503 20).toNatClampNeg))) dX12_operand_8 (by decide) (cel_514 _ _ _) g250 rfl ?_
  refine es_l (pc' := 10) (ls' := [(0, .ref (w.2.1 + 503)), (1, .int x1), (2, .int x2)]) (st' := [.int 2, .int (S.1 514 ((S.1 503 20).toNatClampNeg))]) (fun _ _ k => e_iconst (v := 2) dX12_operand_9 (by decide) k) ?_
  refine es_br (c := (S.1 514 ((S.1 503 20).toNatClampNeg)) = 2) (tgt := 13) (pf := 44) (st' := []) (fun _ _ a b => e_icmp_ne dX12_operand_10 rfl b a) (fun c251 => ?_) (fun c251 => ?_)
  · rw [if_pos c251] at hf
    refine es_l (pc' := 15) (ls' := [(0, .ref (w.2.1 + 503)), (1, .int x1), (2, .int x2)]) (st' := [.int 1, .ref (w.2.1 + 503)]) (fun _ _ k => e_aload_n dX12_operand_13 0 rfl (e_iconst (v := 1) dX12_operand_14 (by decide) k)) ?_
    refine es_callVV (as := [.int 1]) (rest := []) hf xc_12 dX12_operand_15 cs_X12_operand_X12_emit ml_X12_278 im_X12_emit se_X12_emit rfl rfl (Nat.le_of_ble_eq_true rfl) (Nat.le_of_ble_eq_true rfl) (by decide) rfl (cel_503 _ _ _) (fun _ e => t_X12_emit N 1 S _ e) (by decide) (fun S252 hf => ?_)
    refine es_l (pc' := 20) (ls' := [(0, .ref (w.2.1 + 503)), (1, .int x1), (2, .int x2)]) (st' := [.ref (w.2.1 + 503), .ref (w.2.1 + 503)]) (fun _ _ k => e_aload_n dX12_operand_18 0 rfl (e_aload_n dX12_operand_19 0 rfl k)) ?_
    refine es_get (v := .ref (w.2.1 + 516)) xc_12 dX12_operand_20 fl_X12_63 (by decide) (by decide) (cel_503 _ _ _) rfl ?_
    refine es_l (pc' := 24) (ls' := [(0, .ref (w.2.1 + 503)), (1, .int x1), (2, .int x2)]) (st' := [.ref (w.2.1 + 503), .ref (w.2.1 + 516), .ref (w.2.1 + 503)]) (fun _ _ k => e_aload_n dX12_operand_23 0 rfl k) ?_
    refine es_get (v := .int (S252.1 503 20)) xc_12 dX12_operand_24 fl_X12_72 (by decide) (by decide) (cel_503 _ _ _) rfl ?_
    obtain ⟨g254, hf⟩ := xg hf
    refine es_lald (v := .long (S252.2.1 516 ((S252.1 503 20).toNatClampNeg))) dX12_operand_27 (by decide) (cel_516 _ _ _) g254 rfl ?_
    refine es_l (pc' := 29) (ls' := [(0, .ref (w.2.1 + 503)), (1, .int x1), (2, .int x2)]) (st' := [.int ((S252.2.1 516 ((S252.1 503 20).toNatClampNeg) : Int64).toInt32), .ref (w.2.1 + 503)]) (fun _ _ k => e_l2i (v := (S252.2.1 516 ((S252.1 503 20).toNatClampNeg) : Int64).toInt32) dX12_operand_28 rfl k) ?_
    refine es_callVV (as := [.int ((S252.2.1 516 ((S252.1 503 20).toNatClampNeg) : Int64).toInt32)]) (rest := []) hf xc_12 dX12_operand_29 cs_X12_operand_X12_emit ml_X12_278 im_X12_emit se_X12_emit rfl rfl (Nat.le_of_ble_eq_true rfl) (Nat.le_of_ble_eq_true rfl) (by decide) rfl (cel_503 _ _ _) (fun _ e => t_X12_emit N ((S252.2.1 516 ((S252.1 503 20).toNatClampNeg) : Int64).toInt32) S252 _ e) (by decide) (fun S255 hf => ?_)
    refine es_l (pc' := 34) (ls' := [(0, .ref (w.2.1 + 503)), (1, .int x1), (2, .int x2)]) (st' := [.ref (w.2.1 + 503), .ref (w.2.1 + 503)]) (fun _ _ k => e_aload_n dX12_operand_32 0 rfl (e_dup dX12_operand_33 rfl k)) ?_
    refine es_get (v := .int (S255.1 503 20)) xc_12 dX12_operand_34 fl_X12_72 (by decide) (by decide) (cel_503 _ _ _) rfl ?_
    refine es_l (pc' := 39) (ls' := [(0, .ref (w.2.1 + 503)), (1, .int x1), (2, .int x2)]) (st' := [.int ((S255.1 503 20) + 1), .ref (w.2.1 + 503)]) (fun _ _ k => e_iconst (v := 1) dX12_operand_37 (by decide) (e_iadd dX12_operand_38 k)) ?_
    refine es_put xc_12 dX12_operand_39 fl_X12_72 (by decide) (by decide) (by decide) (cel_503 _ _ _) rfl rfl rfl rfl ?_
    refine es_l (pc' := 43) (ls' := [(0, .ref (w.2.1 + 503)), (1, .int x1), (2, .int x2)]) (st' := [.int 1]) (fun _ _ k => e_iconst (v := 1) dX12_operand_42 (by decide) k) ?_
    exact es_ireturn (ty := .boolean) dX12_operand_43 rfl rfl hf
  · rw [if_neg c251] at hf
    refine es_l (pc' := 47) (ls' := [(0, .ref (w.2.1 + 503)), (1, .int x1), (2, .int x2)]) (st' := [.int 45, .ref (w.2.1 + 503)]) (fun _ _ k => e_aload_n dX12_operand_44 0 rfl (e_bipush (v := 45) dX12_operand_45 (by decide) k)) ?_
    refine es_callVI (as := [.int 45]) (rest := []) hf xc_12 dX12_operand_47 cs_X12_operand_X12_isSign ml_X12_232 im_X12_isSign se_X12_isSign rfl rfl (Nat.le_of_ble_eq_true rfl) (Nat.le_of_ble_eq_true rfl) (by decide) rfl (cel_503 _ _ _) (fun _ e => t_X12_isSign N 45 S _ e) (by decide) (fun v258 S257 hf => ?_)
    refine es_br (c := v258 = 0) (tgt := 59) (pf := 53) (st' := []) (fun _ _ a b => e_if_eq dX12_operand_50 rfl a b) (fun c259 => ?_) (fun c259 => ?_)
    · rw [if_pos c259] at hf
      refine es_l (pc' := 62) (ls' := [(0, .ref (w.2.1 + 503)), (1, .int x1), (2, .int x2)]) (st' := [.int 15, .ref (w.2.1 + 503)]) (fun _ _ k => e_aload_n dX12_operand_59 0 rfl (e_bipush (v := 15) dX12_operand_60 (by decide) k)) ?_
      refine es_callVI (as := [.int 15]) (rest := []) hf xc_12 dX12_operand_62 cs_X12_operand_X12_isWord ml_X12_239 im_X12_isWord se_X12_isWord rfl rfl (Nat.le_of_ble_eq_true rfl) (Nat.le_of_ble_eq_true rfl) (by decide) rfl (cel_503 _ _ _) (fun _ e => t_X12_isWord N 15 S257 _ e) (by decide) (fun v261 S260 hf => ?_)
      refine es_br (c := v261 = 0) (tgt := 114) (pf := 68) (st' := []) (fun _ _ a b => e_if_eq dX12_operand_65 rfl a b) (fun c262 => ?_) (fun c262 => ?_)
      · rw [if_pos c262] at hf
        refine es_l (pc' := 117) (ls' := [(0, .ref (w.2.1 + 503)), (1, .int x1), (2, .int x2)]) (st' := [.int 40, .ref (w.2.1 + 503)]) (fun _ _ k => e_aload_n dX12_operand_114 0 rfl (e_bipush (v := 40) dX12_operand_115 (by decide) k)) ?_
        refine es_callVI (as := [.int 40]) (rest := []) hf xc_12 dX12_operand_117 cs_X12_operand_X12_isSign ml_X12_232 im_X12_isSign se_X12_isSign rfl rfl (Nat.le_of_ble_eq_true rfl) (Nat.le_of_ble_eq_true rfl) (by decide) rfl (cel_503 _ _ _) (fun _ e => t_X12_isSign N 40 S260 _ e) (by decide) (fun v264 S263 hf => ?_)
        refine es_br (c := v264 = 0) (tgt := 143) (pf := 123) (st' := []) (fun _ _ a b => e_if_eq dX12_operand_120 rfl a b) (fun c265 => ?_) (fun c265 => ?_)
        · rw [if_pos c265] at hf
          refine es_l (pc' := 144) (ls' := [(0, .ref (w.2.1 + 503)), (1, .int x1), (2, .int x2)]) (st' := [.ref (w.2.1 + 503)]) (fun _ _ k => e_aload_n dX12_operand_143 0 rfl k) ?_
          refine es_get (v := .ref (w.2.1 + 514)) xc_12 dX12_operand_144 fl_X12_57 (by decide) (by decide) (cel_503 _ _ _) rfl ?_
          refine es_l (pc' := 148) (ls' := [(0, .ref (w.2.1 + 503)), (1, .int x1), (2, .int x2)]) (st' := [.ref (w.2.1 + 503), .ref (w.2.1 + 514)]) (fun _ _ k => e_aload_n dX12_operand_147 0 rfl k) ?_
          refine es_get (v := .int (S263.1 503 20)) xc_12 dX12_operand_148 fl_X12_72 (by decide) (by decide) (cel_503 _ _ _) rfl ?_
          obtain ⟨g266, hf⟩ := xg hf
          refine es_iald (v := .int (S263.1 514 ((S263.1 503 20).toNatClampNeg))) dX12_operand_151 (by decide) (cel_514 _ _ _) g266 rfl ?_
          refine es_l (pc' := 153) (ls' := [(0, .ref (w.2.1 + 503)), (1, .int x1), (2, .int x2)]) (st' := [.int 3, .int (S263.1 514 ((S263.1 503 20).toNatClampNeg))]) (fun _ _ k => e_iconst (v := 3) dX12_operand_152 (by decide) k) ?_
          refine es_br (c := (S263.1 514 ((S263.1 503 20).toNatClampNeg)) = 3) (tgt := 156) (pf := 191) (st' := []) (fun _ _ a b => e_icmp_ne dX12_operand_153 rfl b a) (fun c267 => ?_) (fun c267 => ?_)
          · rw [if_pos c267] at hf
            refine es_l (pc' := 157) (ls' := [(0, .ref (w.2.1 + 503)), (1, .int x1), (2, .int x2)]) (st' := [.ref (w.2.1 + 503)]) (fun _ _ k => e_aload_n dX12_operand_156 0 rfl k) ?_
            refine es_get (v := .ref (w.2.1 + 516)) xc_12 dX12_operand_157 fl_X12_63 (by decide) (by decide) (cel_503 _ _ _) rfl ?_
            refine es_l (pc' := 161) (ls' := [(0, .ref (w.2.1 + 503)), (1, .int x1), (2, .int x2)]) (st' := [.ref (w.2.1 + 503), .ref (w.2.1 + 516)]) (fun _ _ k => e_aload_n dX12_operand_160 0 rfl k) ?_
            refine es_get (v := .int (S263.1 503 20)) xc_12 dX12_operand_161 fl_X12_72 (by decide) (by decide) (cel_503 _ _ _) rfl ?_
            refine es_lald (v := .long (S263.2.1 516 ((S263.1 503 20).toNatClampNeg))) dX12_operand_164 (by decide) (cel_516 _ _ _) g266 rfl ?_
            refine es_l (pc' := 169) (ls' := [(0, .ref (w.2.1 + 503)), (1, .int x1), (2, .int x2)]) (st' := [.int (lg_cmp (S263.2.1 516 ((S263.1 503 20).toNatClampNeg)) 16)]) (fun _ _ k => e_ldc2 dX12_operand_165 kj_X12_288 (e_lcmp dX12_operand_168 k)) ?_
            refine es_br (c := (lg_cmp (S263.2.1 516 ((S263.1 503 20).toNatClampNeg)) 16) < 0) (tgt := 191) (pf := 172) (st' := []) (fun _ _ a b => e_if_lt dX12_operand_169 rfl a b) (fun c268 => ?_) (fun c268 => ?_)
            · rw [if_pos c268] at hf
              refine es_sub [0] rfl ?_
              exact t_X12_operand_191 N S263 r hf
            · rw [if_neg c268] at hf
              refine es_l (pc' := 173) (ls' := [(0, .ref (w.2.1 + 503)), (1, .int x1), (2, .int x2)]) (st' := [.ref (w.2.1 + 503)]) (fun _ _ k => e_aload_n dX12_operand_172 0 rfl k) ?_
              refine es_get (v := .int (S263.1 503 29)) xc_12 dX12_operand_173 fl_X12_100 (by decide) (by decide) (cel_503 _ _ _) rfl ?_
              refine es_br (c := (S263.1 503 29) < 0) (tgt := 186) (pf := 179) (st' := []) (fun _ _ a b => e_if_lt dX12_operand_176 rfl a b) (fun c269 => ?_) (fun c269 => ?_)
              · rw [if_pos c269] at hf
                refine es_l (pc' := 187) (ls' := [(0, .ref (w.2.1 + 503)), (1, .int x1), (2, .int x2)]) (st' := [.ref (w.2.1 + 503)]) (fun _ _ k => e_aload_n dX12_operand_186 0 rfl k) ?_
                refine es_callVI (as := []) (rest := []) hf xc_12 dX12_operand_187 cs_X12_operand_X12_aggregate ml_X12_290 im_X12_aggregate se_X12_aggregate rfl rfl (Nat.le_of_ble_eq_true rfl) (Nat.le_of_ble_eq_true rfl) (by decide) rfl (cel_503 _ _ _) (fun _ e => t_X12_aggregate N  S263 _ e) (by decide) (fun v271 S270 hf => ?_)
                refine es_sub [] rfl ?_
                exact t_X12_operand_190 N v271 S270 r hf
              · rw [if_neg c269] at hf
                refine es_l (pc' := 180) (ls' := [(0, .ref (w.2.1 + 503)), (1, .int x1), (2, .int x2)]) (st' := [.ref (w.2.1 + 503)]) (fun _ _ k => e_aload_n dX12_operand_179 0 rfl k) ?_
                refine es_callVI (as := []) (rest := []) hf xc_12 dX12_operand_180 cs_X12_operand_X12_wrong ml_X12_235 im_X12_wrong se_X12_wrong rfl rfl (Nat.le_of_ble_eq_true rfl) (Nat.le_of_ble_eq_true rfl) (by decide) rfl (cel_503 _ _ _) (fun _ e => t_X12_wrong N  S263 _ e) (by decide) (fun v273 S272 hf => ?_)
                refine es_l (pc' := 190) (ls' := [(0, .ref (w.2.1 + 503)), (1, .int x1), (2, .int x2)]) (st' := [.int v273]) (fun _ _ k => e_goto (tgt := 190) dX12_operand_183 rfl k) ?_
                refine es_sub [] rfl ?_
                exact t_X12_operand_190 N v273 S272 r hf
          · rw [if_neg c267] at hf
            refine es_sub [0] rfl ?_
            exact t_X12_operand_191 N S263 r hf
        · rw [if_neg c265] at hf
          refine es_l (pc' := 124) (ls' := [(0, .ref (w.2.1 + 503)), (1, .int x1), (2, .int x2)]) (st' := [.ref (w.2.1 + 503)]) (fun _ _ k => e_aload_n dX12_operand_123 0 rfl k) ?_
          refine es_callVI (as := []) (rest := []) hf xc_12 dX12_operand_124 cs_X12_operand_X12_bracket ml_X12_285 im_X12_bracket se_X12_bracket rfl rfl (Nat.le_of_ble_eq_true rfl) (Nat.le_of_ble_eq_true rfl) (by decide) rfl (cel_503 _ _ _) (fun _ e => t_X12_bracket N  S263 _ e) (by decide) (fun v275 S274 hf => ?_)
          refine es_br (c := v275 = 0) (tgt := 138) (pf := 130) (st' := []) (fun _ _ a b => e_if_eq dX12_operand_127 rfl a b) (fun c276 => ?_) (fun c276 => ?_)
          · rw [if_pos c276] at hf
            refine es_l (pc' := 139) (ls' := [(0, .ref (w.2.1 + 503)), (1, .int x1), (2, .int x2)]) (st' := [.ref (w.2.1 + 503)]) (fun _ _ k => e_aload_n dX12_operand_138 0 rfl k) ?_
            refine es_callVI (as := []) (rest := []) hf xc_12 dX12_operand_139 cs_X12_operand_X12_wrong ml_X12_235 im_X12_wrong se_X12_wrong rfl rfl (Nat.le_of_ble_eq_true rfl) (Nat.le_of_ble_eq_true rfl) (by decide) rfl (cel_503 _ _ _) (fun _ e => t_X12_wrong N  S274 _ e) (by decide) (fun v278 S277 hf => ?_)
            refine es_sub [] rfl ?_
            exact t_X12_operand_142 N v278 S277 r hf
          · rw [if_neg c276] at hf
            refine es_l (pc' := 132) (ls' := [(0, .ref (w.2.1 + 503)), (1, .int x1), (2, .int x2)]) (st' := [.int 1, .ref (w.2.1 + 503)]) (fun _ _ k => e_aload_n dX12_operand_130 0 rfl (e_iconst (v := 1) dX12_operand_131 (by decide) k)) ?_
            refine es_callVI (as := [.int 1]) (rest := []) hf xc_12 dX12_operand_132 cs_X12_operand_X12_push ml_X12_282 im_X12_push se_X12_push rfl rfl (Nat.le_of_ble_eq_true rfl) (Nat.le_of_ble_eq_true rfl) (by decide) rfl (cel_503 _ _ _) (fun _ e => t_X12_push N 1 S274 _ e) (by decide) (fun v280 S279 hf => ?_)
            refine es_l (pc' := 142) (ls' := [(0, .ref (w.2.1 + 503)), (1, .int x1), (2, .int x2)]) (st' := [.int v280]) (fun _ _ k => e_goto (tgt := 142) dX12_operand_135 rfl k) ?_
            refine es_sub [] rfl ?_
            exact t_X12_operand_142 N v280 S279 r hf
      · rw [if_neg c262] at hf
        refine es_l (pc' := 69) (ls' := [(0, .ref (w.2.1 + 503)), (1, .int x1), (2, .int x2)]) (st' := [.ref (w.2.1 + 503)]) (fun _ _ k => e_aload_n dX12_operand_68 0 rfl k) ?_
        refine es_get (v := .int (S260.1 503 28)) xc_12 dX12_operand_69 fl_X12_97 (by decide) (by decide) (cel_503 _ _ _) rfl ?_
        refine es_l (pc' := 73) (ls' := [(0, .ref (w.2.1 + 503)), (1, .int x1), (2, .int x2)]) (st' := [.int x1, .int (S260.1 503 28)]) (fun _ _ k => e_iload_n dX12_operand_72 1 rfl k) ?_
        refine es_br (c := (S260.1 503 28) ≤ x1) (tgt := 90) (pf := 76) (st' := []) (fun _ _ a b => e_icmp_le dX12_operand_73 rfl a b) (fun c281 => ?_) (fun c281 => ?_)
        · rw [if_pos c281] at hf
          refine es_l (pc' := 91) (ls' := [(0, .ref (w.2.1 + 503)), (1, .int x1), (2, .int x2)]) (st' := [.int 0]) (fun _ _ k => e_iconst (v := 0) dX12_operand_90 (by decide) k) ?_
          refine es_sub [0] rfl ?_
          exact t_X12_operand_91 N 0 S260 r hf
        · rw [if_neg c281] at hf
          refine es_l (pc' := 77) (ls' := [(0, .ref (w.2.1 + 503)), (1, .int x1), (2, .int x2)]) (st' := [.ref (w.2.1 + 503)]) (fun _ _ k => e_aload_n dX12_operand_76 0 rfl k) ?_
          refine es_get (v := .ref (w.2.1 + 519)) xc_12 dX12_operand_77 fl_X12_94 (by decide) (by decide) (cel_503 _ _ _) rfl ?_
          refine es_l (pc' := 81) (ls' := [(0, .ref (w.2.1 + 503)), (1, .int x1), (2, .int x2)]) (st' := [.ref (w.2.1 + 503), .ref (w.2.1 + 519)]) (fun _ _ k => e_aload_n dX12_operand_80 0 rfl k) ?_
          refine es_get (v := .int (S260.1 503 28)) xc_12 dX12_operand_81 fl_X12_97 (by decide) (by decide) (cel_503 _ _ _) rfl ?_
          refine es_l (pc' := 86) (ls' := [(0, .ref (w.2.1 + 503)), (1, .int x1), (2, .int x2)]) (st' := [.int ((S260.1 503 28) - 1), .ref (w.2.1 + 519)]) (fun _ _ k => e_iconst (v := 1) dX12_operand_84 (by decide) (e_isub dX12_operand_85 k)) ?_
          obtain ⟨g282, hf⟩ := xg hf
          refine es_iald (v := .int (S260.1 519 (((S260.1 503 28) - 1).toNatClampNeg))) dX12_operand_86 (by decide) (cel_519 _ _ _) g282 rfl ?_
          refine es_l (pc' := 91) (ls' := [(0, .ref (w.2.1 + 503)), (1, .int x1), (2, .int x2)]) (st' := [.int (S260.1 519 (((S260.1 503 28) - 1).toNatClampNeg))]) (fun _ _ k => e_goto (tgt := 91) dX12_operand_87 rfl k) ?_
          refine es_sub [0] rfl ?_
          exact t_X12_operand_91 N (S260.1 519 (((S260.1 503 28) - 1).toNatClampNeg)) S260 r hf
    · rw [if_neg c259] at hf
      refine es_l (pc' := 55) (ls' := [(0, .ref (w.2.1 + 503)), (1, .int x1), (2, .int x2)]) (st' := [.int 5, .ref (w.2.1 + 503)]) (fun _ _ k => e_aload_n dX12_operand_53 0 rfl (e_iconst (v := 5) dX12_operand_54 (by decide) k)) ?_
      refine es_callVI (as := [.int 5]) (rest := []) hf xc_12 dX12_operand_55 cs_X12_operand_X12_push ml_X12_282 im_X12_push se_X12_push rfl rfl (Nat.le_of_ble_eq_true rfl) (Nat.le_of_ble_eq_true rfl) (by decide) rfl (cel_503 _ _ _) (fun _ e => t_X12_push N 5 S257 _ e) (by decide) (fun v284 S283 hf => ?_)
      obtain ⟨g285, hf⟩ := xg hf
      exact es_ireturn (ty := .boolean) dX12_operand_58 rfl (xbo_n g285) hf
def f_X12_unwind_52 (N : Nat)   (S : xS) : Option xr :=
  some (.inl none, S)
set_option maxRecDepth 100000 in
set_option maxHeartbeats 4000000 in
theorem t_X12_unwind_52 {l : Launch} {w : xW} {g : Nat → xE} (N : Nat)    (S : xS) (r : xr) (hf : f_X12_unwind_52 N   S = some r) : ES l w g M_X12_unwind 52 [] [] S r := by
  unfold f_X12_unwind_52 at hf
  exact es_return dX12_unwind_52 rfl hf
def f_X12_unwind_0 (N : Nat)  : Nat → Int32 → Int32 → xS → Option xr
  | 0, _, _, _ => none
  | n + 1, x1, x2, S =>
  if (S.1 503 28) ≤ x1 then
    f_X12_unwind_52 N S
  else
    if xin ((S.1 503 28) - 1) 160 then
    xcI (f_X12_strength N (S.1 519 (((S.1 503 28) - 1).toNatClampNeg)) S) (fun v36 S35 =>
    if v36 ≤ x2 then
      f_X12_unwind_52 N S35
    else
      if xin ((S35.1 503 28) - 1) 160 then
      xcV (f_X12_emit N (S35.1 519 (((S35.1 503 28) - 1).toNatClampNeg)) (sI S35 503 28 ((S35.1 503 28) - 1))) (fun S39 =>
      f_X12_unwind_0 N n x1 x2 S39
      )
      else none
    )
    else none
set_option maxRecDepth 100000 in
set_option maxHeartbeats 4000000 in
theorem t_X12_unwind_0 {l : Launch} {w : xW} {g : Nat → xE} (N : Nat)   : ∀ (n : Nat) (x1 : Int32) (x2 : Int32) (S : xS) (r : xr), f_X12_unwind_0 N  n x1 x2 S = some r → ES l w g M_X12_unwind 0 [(0, .ref (w.2.1 + 503)), (1, .int x1), (2, .int x2)] [] S r := by
  intro n
  induction n with
  | zero => intro x1 x2 S r hf; cases hf
  | succ n ih =>
    intro x1 x2 S r hf
    rw [f_X12_unwind_0.eq_2] at hf
    refine es_l (pc' := 1) (ls' := [(0, .ref (w.2.1 + 503)), (1, .int x1), (2, .int x2)]) (st' := [.ref (w.2.1 + 503)]) (fun _ _ k => e_aload_n dX12_unwind_0 0 rfl k) ?_
    refine es_get (v := .int (S.1 503 28)) xc_12 dX12_unwind_1 fl_X12_97 (by decide) (by decide) (cel_503 _ _ _) rfl ?_
    refine es_l (pc' := 5) (ls' := [(0, .ref (w.2.1 + 503)), (1, .int x1), (2, .int x2)]) (st' := [.int x1, .int (S.1 503 28)]) (fun _ _ k => e_iload_n dX12_unwind_4 1 rfl k) ?_
    refine es_br (c := (S.1 503 28) ≤ x1) (tgt := 52) (pf := 8) (st' := []) (fun _ _ a b => e_icmp_le dX12_unwind_5 rfl a b) (fun c33 => ?_) (fun c33 => ?_)
    · rw [if_pos c33] at hf
      refine es_sub [] rfl ?_
      exact t_X12_unwind_52 N S r hf
    · rw [if_neg c33] at hf
      refine es_l (pc' := 9) (ls' := [(0, .ref (w.2.1 + 503)), (1, .int x1), (2, .int x2)]) (st' := [.ref (w.2.1 + 503)]) (fun _ _ k => e_aload_n dX12_unwind_8 0 rfl k) ?_
      refine es_get (v := .ref (w.2.1 + 519)) xc_12 dX12_unwind_9 fl_X12_94 (by decide) (by decide) (cel_503 _ _ _) rfl ?_
      refine es_l (pc' := 13) (ls' := [(0, .ref (w.2.1 + 503)), (1, .int x1), (2, .int x2)]) (st' := [.ref (w.2.1 + 503), .ref (w.2.1 + 519)]) (fun _ _ k => e_aload_n dX12_unwind_12 0 rfl k) ?_
      refine es_get (v := .int (S.1 503 28)) xc_12 dX12_unwind_13 fl_X12_97 (by decide) (by decide) (cel_503 _ _ _) rfl ?_
      refine es_l (pc' := 18) (ls' := [(0, .ref (w.2.1 + 503)), (1, .int x1), (2, .int x2)]) (st' := [.int ((S.1 503 28) - 1), .ref (w.2.1 + 519)]) (fun _ _ k => e_iconst (v := 1) dX12_unwind_16 (by decide) (e_isub dX12_unwind_17 k)) ?_
      obtain ⟨g34, hf⟩ := xg hf
      refine es_iald (v := .int (S.1 519 (((S.1 503 28) - 1).toNatClampNeg))) dX12_unwind_18 (by decide) (cel_519 _ _ _) g34 rfl ?_
      refine es_callSI (as := [.int (S.1 519 (((S.1 503 28) - 1).toNatClampNeg))]) (rest := []) hf dX12_unwind_19 cs_X12_unwind_X12_strength ml_X12_275 st_X12_strength rfl rfl (Nat.le_of_ble_eq_true rfl) (Nat.le_of_ble_eq_true rfl) (fun _ e => t_X12_strength N (S.1 519 (((S.1 503 28) - 1).toNatClampNeg)) S _ e) (by decide) (fun v36 S35 hf => ?_)
      refine es_l (pc' := 23) (ls' := [(0, .ref (w.2.1 + 503)), (1, .int x1), (2, .int x2)]) (st' := [.int x2, .int v36]) (fun _ _ k => e_iload_n dX12_unwind_22 2 rfl k) ?_
      refine es_br (c := v36 ≤ x2) (tgt := 52) (pf := 26) (st' := []) (fun _ _ a b => e_icmp_le dX12_unwind_23 rfl a b) (fun c37 => ?_) (fun c37 => ?_)
      · rw [if_pos c37] at hf
        refine es_sub [] rfl ?_
        exact t_X12_unwind_52 N S35 r hf
      · rw [if_neg c37] at hf
        refine es_l (pc' := 28) (ls' := [(0, .ref (w.2.1 + 503)), (1, .int x1), (2, .int x2)]) (st' := [.ref (w.2.1 + 503), .ref (w.2.1 + 503)]) (fun _ _ k => e_aload_n dX12_unwind_26 0 rfl (e_dup dX12_unwind_27 rfl k)) ?_
        refine es_get (v := .int (S35.1 503 28)) xc_12 dX12_unwind_28 fl_X12_97 (by decide) (by decide) (cel_503 _ _ _) rfl ?_
        refine es_l (pc' := 33) (ls' := [(0, .ref (w.2.1 + 503)), (1, .int x1), (2, .int x2)]) (st' := [.int ((S35.1 503 28) - 1), .ref (w.2.1 + 503)]) (fun _ _ k => e_iconst (v := 1) dX12_unwind_31 (by decide) (e_isub dX12_unwind_32 k)) ?_
        refine es_put xc_12 dX12_unwind_33 fl_X12_97 (by decide) (by decide) (by decide) (cel_503 _ _ _) rfl rfl rfl rfl ?_
        refine es_l (pc' := 38) (ls' := [(0, .ref (w.2.1 + 503)), (1, .int x1), (2, .int x2)]) (st' := [.ref (w.2.1 + 503), .ref (w.2.1 + 503)]) (fun _ _ k => e_aload_n dX12_unwind_36 0 rfl (e_aload_n dX12_unwind_37 0 rfl k)) ?_
        refine es_get (v := .ref (w.2.1 + 519)) xc_12 dX12_unwind_38 fl_X12_94 (by decide) (by decide) (cel_503 _ _ _) rfl ?_
        refine es_l (pc' := 42) (ls' := [(0, .ref (w.2.1 + 503)), (1, .int x1), (2, .int x2)]) (st' := [.ref (w.2.1 + 503), .ref (w.2.1 + 519), .ref (w.2.1 + 503)]) (fun _ _ k => e_aload_n dX12_unwind_41 0 rfl k) ?_
        refine es_get (v := .int ((S35.1 503 28) - 1)) xc_12 dX12_unwind_42 fl_X12_97 (by decide) (by decide) (cel_503 _ _ _) rfl ?_
        obtain ⟨g38, hf⟩ := xg hf
        refine es_iald (v := .int (S35.1 519 (((S35.1 503 28) - 1).toNatClampNeg))) dX12_unwind_45 (by decide) (cel_519 _ _ _) g38 rfl ?_
        refine es_callVV (as := [.int (S35.1 519 (((S35.1 503 28) - 1).toNatClampNeg))]) (rest := []) hf xc_12 dX12_unwind_46 cs_X12_unwind_X12_emit ml_X12_278 im_X12_emit se_X12_emit rfl rfl (Nat.le_of_ble_eq_true rfl) (Nat.le_of_ble_eq_true rfl) (by decide) rfl (cel_503 _ _ _) (fun _ e => t_X12_emit N (S35.1 519 (((S35.1 503 28) - 1).toNatClampNeg)) (sI S35 503 28 ((S35.1 503 28) - 1)) _ e) (by decide) (fun S39 hf => ?_)
        refine es_l (pc' := 0) (ls' := [(0, .ref (w.2.1 + 503)), (1, .int x1), (2, .int x2)]) (st' := []) (fun _ _ k => e_goto (tgt := 0) dX12_unwind_49 rfl k) ?_
        exact ih x1 x2 S39 r hf
def f_X12_unwind (N : Nat) (x1 : Int32) (x2 : Int32) (S : xS) : Option xr :=
  if (S.1 503 28) ≤ x1 then
    f_X12_unwind_52 N S
  else
    if xin ((S.1 503 28) - 1) 160 then
    xcI (f_X12_strength N (S.1 519 (((S.1 503 28) - 1).toNatClampNeg)) S) (fun v44 S43 =>
    if v44 ≤ x2 then
      f_X12_unwind_52 N S43
    else
      if xin ((S43.1 503 28) - 1) 160 then
      xcV (f_X12_emit N (S43.1 519 (((S43.1 503 28) - 1).toNatClampNeg)) (sI S43 503 28 ((S43.1 503 28) - 1))) (fun S47 =>
      f_X12_unwind_0 N N x1 x2 S47
      )
      else none
    )
    else none
set_option maxRecDepth 100000 in
set_option maxHeartbeats 4000000 in
theorem t_X12_unwind {l : Launch} {w : xW} {g : Nat → xE} (N : Nat) (x1 : Int32) (x2 : Int32) (S : xS) (r : xr) (hf : f_X12_unwind N x1 x2 S = some r) : ES l w g M_X12_unwind 0 (lv_args 0 [.ref (w.2.1 + 503), .int x1, .int x2]) [] S r := by
  show ES l w g M_X12_unwind 0 [(0, .ref (w.2.1 + 503)), (1, .int x1), (2, .int x2)] [] S r
  unfold f_X12_unwind at hf
  refine es_l (pc' := 1) (ls' := [(0, .ref (w.2.1 + 503)), (1, .int x1), (2, .int x2)]) (st' := [.ref (w.2.1 + 503)]) (fun _ _ k => e_aload_n dX12_unwind_0 0 rfl k) ?_
  refine es_get (v := .int (S.1 503 28)) xc_12 dX12_unwind_1 fl_X12_97 (by decide) (by decide) (cel_503 _ _ _) rfl ?_
  refine es_l (pc' := 5) (ls' := [(0, .ref (w.2.1 + 503)), (1, .int x1), (2, .int x2)]) (st' := [.int x1, .int (S.1 503 28)]) (fun _ _ k => e_iload_n dX12_unwind_4 1 rfl k) ?_
  refine es_br (c := (S.1 503 28) ≤ x1) (tgt := 52) (pf := 8) (st' := []) (fun _ _ a b => e_icmp_le dX12_unwind_5 rfl a b) (fun c41 => ?_) (fun c41 => ?_)
  · rw [if_pos c41] at hf
    refine es_sub [] rfl ?_
    exact t_X12_unwind_52 N S r hf
  · rw [if_neg c41] at hf
    refine es_l (pc' := 9) (ls' := [(0, .ref (w.2.1 + 503)), (1, .int x1), (2, .int x2)]) (st' := [.ref (w.2.1 + 503)]) (fun _ _ k => e_aload_n dX12_unwind_8 0 rfl k) ?_
    refine es_get (v := .ref (w.2.1 + 519)) xc_12 dX12_unwind_9 fl_X12_94 (by decide) (by decide) (cel_503 _ _ _) rfl ?_
    refine es_l (pc' := 13) (ls' := [(0, .ref (w.2.1 + 503)), (1, .int x1), (2, .int x2)]) (st' := [.ref (w.2.1 + 503), .ref (w.2.1 + 519)]) (fun _ _ k => e_aload_n dX12_unwind_12 0 rfl k) ?_
    refine es_get (v := .int (S.1 503 28)) xc_12 dX12_unwind_13 fl_X12_97 (by decide) (by decide) (cel_503 _ _ _) rfl ?_
    refine es_l (pc' := 18) (ls' := [(0, .ref (w.2.1 + 503)), (1, .int x1), (2, .int x2)]) (st' := [.int ((S.1 503 28) - 1), .ref (w.2.1 + 519)]) (fun _ _ k => e_iconst (v := 1) dX12_unwind_16 (by decide) (e_isub dX12_unwind_17 k)) ?_
    obtain ⟨g42, hf⟩ := xg hf
    refine es_iald (v := .int (S.1 519 (((S.1 503 28) - 1).toNatClampNeg))) dX12_unwind_18 (by decide) (cel_519 _ _ _) g42 rfl ?_
    refine es_callSI (as := [.int (S.1 519 (((S.1 503 28) - 1).toNatClampNeg))]) (rest := []) hf dX12_unwind_19 cs_X12_unwind_X12_strength ml_X12_275 st_X12_strength rfl rfl (Nat.le_of_ble_eq_true rfl) (Nat.le_of_ble_eq_true rfl) (fun _ e => t_X12_strength N (S.1 519 (((S.1 503 28) - 1).toNatClampNeg)) S _ e) (by decide) (fun v44 S43 hf => ?_)
    refine es_l (pc' := 23) (ls' := [(0, .ref (w.2.1 + 503)), (1, .int x1), (2, .int x2)]) (st' := [.int x2, .int v44]) (fun _ _ k => e_iload_n dX12_unwind_22 2 rfl k) ?_
    refine es_br (c := v44 ≤ x2) (tgt := 52) (pf := 26) (st' := []) (fun _ _ a b => e_icmp_le dX12_unwind_23 rfl a b) (fun c45 => ?_) (fun c45 => ?_)
    · rw [if_pos c45] at hf
      refine es_sub [] rfl ?_
      exact t_X12_unwind_52 N S43 r hf
    · rw [if_neg c45] at hf
      refine es_l (pc' := 28) (ls' := [(0, .ref (w.2.1 + 503)), (1, .int x1), (2, .int x2)]) (st' := [.ref (w.2.1 + 503), .ref (w.2.1 + 503)]) (fun _ _ k => e_aload_n dX12_unwind_26 0 rfl (e_dup dX12_unwind_27 rfl k)) ?_
      refine es_get (v := .int (S43.1 503 28)) xc_12 dX12_unwind_28 fl_X12_97 (by decide) (by decide) (cel_503 _ _ _) rfl ?_
      refine es_l (pc' := 33) (ls' := [(0, .ref (w.2.1 + 503)), (1, .int x1), (2, .int x2)]) (st' := [.int ((S43.1 503 28) - 1), .ref (w.2.1 + 503)]) (fun _ _ k => e_iconst (v := 1) dX12_unwind_31 (by decide) (e_isub dX12_unwind_32 k)) ?_
      refine es_put xc_12 dX12_unwind_33 fl_X12_97 (by decide) (by decide) (by decide) (cel_503 _ _ _) rfl rfl rfl rfl ?_
      refine es_l (pc' := 38) (ls' := [(0, .ref (w.2.1 + 503)), (1, .int x1), (2, .int x2)]) (st' := [.ref (w.2.1 + 503), .ref (w.2.1 + 503)]) (fun _ _ k => e_aload_n dX12_unwind_36 0 rfl (e_aload_n dX12_unwind_37 0 rfl k)) ?_
      refine es_get (v := .ref (w.2.1 + 519)) xc_12 dX12_unwind_38 fl_X12_94 (by decide) (by decide) (cel_503 _ _ _) rfl ?_
      refine es_l (pc' := 42) (ls' := [(0, .ref (w.2.1 + 503)), (1, .int x1), (2, .int x2)]) (st' := [.ref (w.2.1 + 503), .ref (w.2.1 + 519), .ref (w.2.1 + 503)]) (fun _ _ k => e_aload_n dX12_unwind_41 0 rfl k) ?_
      refine es_get (v := .int ((S43.1 503 28) - 1)) xc_12 dX12_unwind_42 fl_X12_97 (by decide) (by decide) (cel_503 _ _ _) rfl ?_
      obtain ⟨g46, hf⟩ := xg hf
      refine es_iald (v := .int (S43.1 519 (((S43.1 503 28) - 1).toNatClampNeg))) dX12_unwind_45 (by decide) (cel_519 _ _ _) g46 rfl ?_
      refine es_callVV (as := [.int (S43.1 519 (((S43.1 503 28) - 1).toNatClampNeg))]) (rest := []) hf xc_12 dX12_unwind_46 cs_X12_unwind_X12_emit ml_X12_278 im_X12_emit se_X12_emit rfl rfl (Nat.le_of_ble_eq_true rfl) (Nat.le_of_ble_eq_true rfl) (by decide) rfl (cel_503 _ _ _) (fun _ e => t_X12_emit N (S43.1 519 (((S43.1 503 28) - 1).toNatClampNeg)) (sI S43 503 28 ((S43.1 503 28) - 1)) _ e) (by decide) (fun S47 hf => ?_)
      refine es_l (pc' := 0) (ls' := [(0, .ref (w.2.1 + 503)), (1, .int x1), (2, .int x2)]) (st' := []) (fun _ _ k => e_goto (tgt := 0) dX12_unwind_49 rfl k) ?_
      exact t_X12_unwind_0 N N x1 x2 S47 r hf
def f_X12_binary_58 (N : Nat)  (x2 : Int32) (S : xS) : Option xr :=
  if xin (S.1 503 28) 160 then
  some (.inl (some (.inl 1)), sI (sI (sI S 519 ((S.1 503 28).toNatClampNeg) x2) 503 28 ((S.1 503 28) + 1)) 503 20 ((S.1 503 20) + 1))
  else none
set_option maxRecDepth 100000 in
set_option maxHeartbeats 4000000 in
theorem t_X12_binary_58 {l : Launch} {w : xW} {g : Nat → xE} (N : Nat)   (x2 : Int32) (S : xS) (r : xr) (hf : f_X12_binary_58 N  x2 S = some r) : ES l w g M_X12_binary 58 [(0, .ref (w.2.1 + 503)), (2, .int x2)] [] S r := by
  unfold f_X12_binary_58 at hf
  refine es_l (pc' := 59) (ls' := [(0, .ref (w.2.1 + 503)), (2, .int x2)]) (st' := [.ref (w.2.1 + 503)]) (fun _ _ k => e_aload_n dX12_binary_58 0 rfl k) ?_
  refine es_get (v := .ref (w.2.1 + 519)) xc_12 dX12_binary_59 fl_X12_94 (by decide) (by decide) (cel_503 _ _ _) rfl ?_
  refine es_l (pc' := 63) (ls' := [(0, .ref (w.2.1 + 503)), (2, .int x2)]) (st' := [.ref (w.2.1 + 503), .ref (w.2.1 + 519)]) (fun _ _ k => e_aload_n dX12_binary_62 0 rfl k) ?_
  refine es_get (v := .int (S.1 503 28)) xc_12 dX12_binary_63 fl_X12_97 (by decide) (by decide) (cel_503 _ _ _) rfl ?_
  refine es_l (pc' := 67) (ls' := [(0, .ref (w.2.1 + 503)), (2, .int x2)]) (st' := [.int x2, .int (S.1 503 28), .ref (w.2.1 + 519)]) (fun _ _ k => e_iload_n dX12_binary_66 1 rfl k) ?_
  obtain ⟨g31, hf⟩ := xg hf
  refine es_iast dX12_binary_67 (by decide) (cel_519 _) g31 ?_
  refine es_l (pc' := 70) (ls' := [(0, .ref (w.2.1 + 503)), (2, .int x2)]) (st' := [.ref (w.2.1 + 503), .ref (w.2.1 + 503)]) (fun _ _ k => e_aload_n dX12_binary_68 0 rfl (e_dup dX12_binary_69 rfl k)) ?_
  refine es_get (v := .int (S.1 503 28)) xc_12 dX12_binary_70 fl_X12_97 (by decide) (by decide) (cel_503 _ _ _) rfl ?_
  refine es_l (pc' := 75) (ls' := [(0, .ref (w.2.1 + 503)), (2, .int x2)]) (st' := [.int ((S.1 503 28) + 1), .ref (w.2.1 + 503)]) (fun _ _ k => e_iconst (v := 1) dX12_binary_73 (by decide) (e_iadd dX12_binary_74 k)) ?_
  refine es_put xc_12 dX12_binary_75 fl_X12_97 (by decide) (by decide) (by decide) (cel_503 _ _ _) rfl rfl rfl rfl ?_
  refine es_l (pc' := 80) (ls' := [(0, .ref (w.2.1 + 503)), (2, .int x2)]) (st' := [.ref (w.2.1 + 503), .ref (w.2.1 + 503)]) (fun _ _ k => e_aload_n dX12_binary_78 0 rfl (e_dup dX12_binary_79 rfl k)) ?_
  refine es_get (v := .int (S.1 503 20)) xc_12 dX12_binary_80 fl_X12_72 (by decide) (by decide) (cel_503 _ _ _) rfl ?_
  refine es_l (pc' := 85) (ls' := [(0, .ref (w.2.1 + 503)), (2, .int x2)]) (st' := [.int ((S.1 503 20) + 1), .ref (w.2.1 + 503)]) (fun _ _ k => e_iconst (v := 1) dX12_binary_83 (by decide) (e_iadd dX12_binary_84 k)) ?_
  refine es_put xc_12 dX12_binary_85 fl_X12_72 (by decide) (by decide) (by decide) (cel_503 _ _ _) rfl rfl rfl rfl ?_
  refine es_l (pc' := 89) (ls' := [(0, .ref (w.2.1 + 503)), (2, .int x2)]) (st' := [.int 1]) (fun _ _ k => e_iconst (v := 1) dX12_binary_88 (by decide) k) ?_
  exact es_ireturn (ty := .boolean) dX12_binary_89 rfl rfl hf
def f_X12_binary_19 (N : Nat)  (x1 : Int32) (x2 : Int32) (x3 : Int32) (s0 : Int32) (s1 : Int32) (S : xS) : Option xr :=
  xcV (f_X12_unwind N s1 s0 S) (fun S32 =>
  if x3 = 4 then
    if (S32.1 503 28) ≤ x1 then
      f_X12_binary_58 N x2 S32
    else
      if xin ((S32.1 503 28) - 1) 160 then
      xcI (f_X12_strength N (S32.1 519 (((S32.1 503 28) - 1).toNatClampNeg)) S32) (fun v38 S37 =>
      if v38 = 4 then
        xcI (f_X12_wrong N S37) (fun v41 S40 =>
        if xbo v41 then
        some (.inl (some (.inl v41)), S40)
        else none
        )
      else
        f_X12_binary_58 N x2 S37
      )
      else none
  else
    f_X12_binary_58 N x2 S32
  )
set_option maxRecDepth 100000 in
set_option maxHeartbeats 4000000 in
theorem t_X12_binary_19 {l : Launch} {w : xW} {g : Nat → xE} (N : Nat)   (x1 : Int32) (x2 : Int32) (x3 : Int32) (s0 : Int32) (s1 : Int32) (S : xS) (r : xr) (hf : f_X12_binary_19 N  x1 x2 x3 s0 s1 S = some r) : ES l w g M_X12_binary 19 [(0, .ref (w.2.1 + 503)), (1, .int x1), (2, .int x2), (3, .int x3)] [.int s0, .int s1, .ref (w.2.1 + 503)] S r := by
  unfold f_X12_binary_19 at hf
  refine es_callVV (as := [.int s1, .int s0]) (rest := []) hf xc_12 dX12_binary_19 cs_X12_binary_X12_unwind ml_X12_271 im_X12_unwind se_X12_unwind rfl rfl (Nat.le_of_ble_eq_true rfl) (Nat.le_of_ble_eq_true rfl) (by decide) rfl (cel_503 _ _ _) (fun _ e => t_X12_unwind N s1 s0 S _ e) (by decide) (fun S32 hf => ?_)
  refine es_l (pc' := 24) (ls' := [(0, .ref (w.2.1 + 503)), (1, .int x1), (2, .int x2), (3, .int x3)]) (st' := [.int 4, .int x3]) (fun _ _ k => e_iload_n dX12_binary_22 3 rfl (e_iconst (v := 4) dX12_binary_23 (by decide) k)) ?_
  refine es_br (c := x3 = 4) (tgt := 27) (pf := 58) (st' := []) (fun _ _ a b => e_icmp_ne dX12_binary_24 rfl b a) (fun c34 => ?_) (fun c34 => ?_)
  · rw [if_pos c34] at hf
    refine es_l (pc' := 28) (ls' := [(0, .ref (w.2.1 + 503)), (1, .int x1), (2, .int x2), (3, .int x3)]) (st' := [.ref (w.2.1 + 503)]) (fun _ _ k => e_aload_n dX12_binary_27 0 rfl k) ?_
    refine es_get (v := .int (S32.1 503 28)) xc_12 dX12_binary_28 fl_X12_97 (by decide) (by decide) (cel_503 _ _ _) rfl ?_
    refine es_l (pc' := 32) (ls' := [(0, .ref (w.2.1 + 503)), (1, .int x1), (2, .int x2), (3, .int x3)]) (st' := [.int x1, .int (S32.1 503 28)]) (fun _ _ k => e_iload_n dX12_binary_31 1 rfl k) ?_
    refine es_br (c := (S32.1 503 28) ≤ x1) (tgt := 58) (pf := 35) (st' := []) (fun _ _ a b => e_icmp_le dX12_binary_32 rfl a b) (fun c35 => ?_) (fun c35 => ?_)
    · rw [if_pos c35] at hf
      refine es_sub [0, 2] rfl ?_
      exact t_X12_binary_58 N x2 S32 r hf
    · rw [if_neg c35] at hf
      refine es_l (pc' := 36) (ls' := [(0, .ref (w.2.1 + 503)), (1, .int x1), (2, .int x2), (3, .int x3)]) (st' := [.ref (w.2.1 + 503)]) (fun _ _ k => e_aload_n dX12_binary_35 0 rfl k) ?_
      refine es_get (v := .ref (w.2.1 + 519)) xc_12 dX12_binary_36 fl_X12_94 (by decide) (by decide) (cel_503 _ _ _) rfl ?_
      refine es_l (pc' := 40) (ls' := [(0, .ref (w.2.1 + 503)), (1, .int x1), (2, .int x2), (3, .int x3)]) (st' := [.ref (w.2.1 + 503), .ref (w.2.1 + 519)]) (fun _ _ k => e_aload_n dX12_binary_39 0 rfl k) ?_
      refine es_get (v := .int (S32.1 503 28)) xc_12 dX12_binary_40 fl_X12_97 (by decide) (by decide) (cel_503 _ _ _) rfl ?_
      refine es_l (pc' := 45) (ls' := [(0, .ref (w.2.1 + 503)), (1, .int x1), (2, .int x2), (3, .int x3)]) (st' := [.int ((S32.1 503 28) - 1), .ref (w.2.1 + 519)]) (fun _ _ k => e_iconst (v := 1) dX12_binary_43 (by decide) (e_isub dX12_binary_44 k)) ?_
      obtain ⟨g36, hf⟩ := xg hf
      refine es_iald (v := .int (S32.1 519 (((S32.1 503 28) - 1).toNatClampNeg))) dX12_binary_45 (by decide) (cel_519 _ _ _) g36 rfl ?_
      refine es_callSI (as := [.int (S32.1 519 (((S32.1 503 28) - 1).toNatClampNeg))]) (rest := []) hf dX12_binary_46 cs_X12_binary_X12_strength ml_X12_275 st_X12_strength rfl rfl (Nat.le_of_ble_eq_true rfl) (Nat.le_of_ble_eq_true rfl) (fun _ e => t_X12_strength N (S32.1 519 (((S32.1 503 28) - 1).toNatClampNeg)) S32 _ e) (by decide) (fun v38 S37 hf => ?_)
      refine es_l (pc' := 50) (ls' := [(0, .ref (w.2.1 + 503)), (1, .int x1), (2, .int x2), (3, .int x3)]) (st' := [.int 4, .int v38]) (fun _ _ k => e_iconst (v := 4) dX12_binary_49 (by decide) k) ?_
      refine es_br (c := v38 = 4) (tgt := 53) (pf := 58) (st' := []) (fun _ _ a b => e_icmp_ne dX12_binary_50 rfl b a) (fun c39 => ?_) (fun c39 => ?_)
      · rw [if_pos c39] at hf
        refine es_l (pc' := 54) (ls' := [(0, .ref (w.2.1 + 503)), (1, .int x1), (2, .int x2), (3, .int x3)]) (st' := [.ref (w.2.1 + 503)]) (fun _ _ k => e_aload_n dX12_binary_53 0 rfl k) ?_
        refine es_callVI (as := []) (rest := []) hf xc_12 dX12_binary_54 cs_X12_binary_X12_wrong ml_X12_235 im_X12_wrong se_X12_wrong rfl rfl (Nat.le_of_ble_eq_true rfl) (Nat.le_of_ble_eq_true rfl) (by decide) rfl (cel_503 _ _ _) (fun _ e => t_X12_wrong N  S37 _ e) (by decide) (fun v41 S40 hf => ?_)
        obtain ⟨g42, hf⟩ := xg hf
        exact es_ireturn (ty := .boolean) dX12_binary_57 rfl (xbo_n g42) hf
      · rw [if_neg c39] at hf
        refine es_sub [0, 2] rfl ?_
        exact t_X12_binary_58 N x2 S37 r hf
  · rw [if_neg c34] at hf
    refine es_sub [0, 2] rfl ?_
    exact t_X12_binary_58 N x2 S32 r hf
def f_X12_binary (N : Nat) (x1 : Int32) (x2 : Int32) (S : xS) : Option xr :=
  xcI (f_X12_strength N x2 S) (fun v44 S43 =>
  if v44 = 4 then
    f_X12_binary_19 N x1 x2 v44 4 x1 S43
  else
    f_X12_binary_19 N x1 x2 v44 (v44 - 1) x1 S43
  )
set_option maxRecDepth 100000 in
set_option maxHeartbeats 4000000 in
theorem t_X12_binary {l : Launch} {w : xW} {g : Nat → xE} (N : Nat) (x1 : Int32) (x2 : Int32) (S : xS) (r : xr) (hf : f_X12_binary N x1 x2 S = some r) : ES l w g M_X12_binary 0 (lv_args 0 [.ref (w.2.1 + 503), .int x1, .int x2]) [] S r := by
  show ES l w g M_X12_binary 0 [(0, .ref (w.2.1 + 503)), (1, .int x1), (2, .int x2)] [] S r
  unfold f_X12_binary at hf
  refine es_l (pc' := 1) (ls' := [(0, .ref (w.2.1 + 503)), (1, .int x1), (2, .int x2)]) (st' := [.int x2]) (fun _ _ k => e_iload_n dX12_binary_0 2 rfl k) ?_
  refine es_callSI (as := [.int x2]) (rest := []) hf dX12_binary_1 cs_X12_binary_X12_strength ml_X12_275 st_X12_strength rfl rfl (Nat.le_of_ble_eq_true rfl) (Nat.le_of_ble_eq_true rfl) (fun _ e => t_X12_strength N x2 S _ e) (by decide) (fun v44 S43 hf => ?_)
  refine es_l (pc' := 9) (ls' := [(3, .int v44), (0, .ref (w.2.1 + 503)), (1, .int x1), (2, .int x2)]) (st' := [.int 4, .int v44, .int x1, .ref (w.2.1 + 503)]) (fun _ _ k => e_istore_n (ls' := [(3, .int v44), (0, .ref (w.2.1 + 503)), (1, .int x1), (2, .int x2)]) dX12_binary_4 (by decide) rfl (e_aload_n dX12_binary_5 1 rfl (e_iload_n dX12_binary_6 2 rfl (e_iload_n dX12_binary_7 0 rfl (e_iconst (v := 4) dX12_binary_8 (by decide) k))))) ?_
  refine es_br (c := v44 = 4) (tgt := 12) (pf := 16) (st' := [.int x1, .ref (w.2.1 + 503)]) (fun _ _ a b => e_icmp_ne dX12_binary_9 rfl b a) (fun c45 => ?_) (fun c45 => ?_)
  · rw [if_pos c45] at hf
    refine es_l (pc' := 19) (ls' := [(3, .int v44), (0, .ref (w.2.1 + 503)), (1, .int x1), (2, .int x2)]) (st' := [.int 4, .int x1, .ref (w.2.1 + 503)]) (fun _ _ k => e_iconst (v := 4) dX12_binary_12 (by decide) (e_goto (tgt := 19) dX12_binary_13 rfl k)) ?_
    refine es_sub [1, 2, 3, 0] rfl ?_
    exact t_X12_binary_19 N x1 x2 v44 4 x1 S43 r hf
  · rw [if_neg c45] at hf
    refine es_l (pc' := 19) (ls' := [(3, .int v44), (0, .ref (w.2.1 + 503)), (1, .int x1), (2, .int x2)]) (st' := [.int (v44 - 1), .int x1, .ref (w.2.1 + 503)]) (fun _ _ k => e_iload_n dX12_binary_16 0 rfl (e_iconst (v := 1) dX12_binary_17 (by decide) (e_isub dX12_binary_18 k))) ?_
    refine es_sub [1, 2, 3, 0] rfl ?_
    exact t_X12_binary_19 N x1 x2 v44 (v44 - 1) x1 S43 r hf
