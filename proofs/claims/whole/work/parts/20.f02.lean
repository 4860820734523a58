def f_X1_read_222 (N : Nat)  (x2 : Int32) (S : xS) : Option xr :=
  if (S.1 407 6) ≤ 0 then
    xcV (f_X1_release N 1 S) (fun S84 =>
    xcR (f_X5_addPart N 0 S84) (fun v87 S86 =>
    some (.inl (some (.inl x2)), S86)
    )
    )
  else
    some (.inr "java/lang/IllegalArgumentException", sE S)
set_option maxRecDepth 100000 in
set_option maxHeartbeats 4000000 in
theorem t_X1_read_222 {l : Launch} {w : xW} {g : Nat → xE} (N : Nat)   (x2 : Int32) (S : xS) (r : xr) (hf : f_X1_read_222 N  x2 S = some r) : ES l w g M_X1_read 222 [(0, .ref (w.2.1 + 407)), (2, .int x2)] [] S r := by
  unfold f_X1_read_222 at hf
  refine es_l (pc' := 223) (ls' := [(0, .ref (w.2.1 + 407)), (2, .int x2)]) (st' := [.ref (w.2.1 + 407)]) (fun _ _ k => e_aload_n dX1_read_222 0 rfl k) ?_
  refine es_get (v := .int (S.1 407 6)) xc_1 dX1_read_223 fl_X1_38 (by decide) (by decide) (cel_407 _ _ _) rfl ?_
  refine es_br (c := (S.1 407 6) ≤ 0) (tgt := 237) (pf := 229) (st' := []) (fun _ _ a b => e_if_le dX1_read_226 rfl a b) (fun c83 => ?_) (fun c83 => ?_)
  · rw [if_pos c83] at hf
    refine es_l (pc' := 239) (ls' := [(0, .ref (w.2.1 + 407)), (2, .int x2)]) (st' := [.int 1, .ref (w.2.1 + 407)]) (fun _ _ k => e_aload_n dX1_read_237 0 rfl (e_iconst (v := 1) dX1_read_238 (by decide) k)) ?_
    refine es_callVV (as := [.int 1]) (rest := []) hf xc_1 dX1_read_239 cs_X1_read_X1_release ml_X1_97 im_X1_release se_X1_release rfl rfl (Nat.le_of_ble_eq_true rfl) (Nat.le_of_ble_eq_true rfl) (by decide) rfl (cel_407 _ _ _) (fun _ e => t_X1_release N 1 S _ e) (by decide) (fun S84 hf => ?_)
    refine es_l (pc' := 243) (ls' := [(0, .ref (w.2.1 + 407)), (2, .int x2)]) (st' := [.ref (w.2.1 + 407)]) (fun _ _ k => e_aload_n dX1_read_242 0 rfl k) ?_
    refine es_get (v := .ref (w.2.1 + 97)) xc_1 dX1_read_243 fl_X1_23 (by decide) (by decide) (cel_407 _ _ _) rfl ?_
    refine es_l (pc' := 247) (ls' := [(0, .ref (w.2.1 + 407)), (2, .int x2)]) (st' := [.int 0, .ref (w.2.1 + 97)]) (fun _ _ k => e_iconst (v := 0) dX1_read_246 (by decide) k) ?_
    refine es_callVR (as := [.int 0]) (rest := []) hf xc_5 dX1_read_247 cs_X1_read_X5_addPart ml_X1_62 im_X5_addPart se_X5_addPart rfl rfl (Nat.le_of_ble_eq_true rfl) (Nat.le_of_ble_eq_true rfl) (by decide) rfl (cel_97 _ _ _) (fun _ e => t_X5_addPart N 0 S84 _ e) (by decide) (fun v87 S86 hf => ?_)
    refine es_l (pc' := 252) (ls' := [(0, .ref (w.2.1 + 407)), (2, .int x2)]) (st' := [.int x2]) (fun _ _ k => e_pop dX1_read_250 rfl (e_iload_n dX1_read_251 1 rfl k)) ?_
    exact es_ireturn (ty := .int) dX1_read_252 rfl rfl hf
  · rw [if_neg c83] at hf
    exact es_throw (names := ["java/lang/RuntimeException", "java/lang/Exception"]) (by decide +kernel) (by decide +kernel) th_k_X1_94 th_i_IllegalArgumentException th_a_X1_94 th_g_X1_94 dX1_read_229 dX1_read_232 dX1_read_233 dX1_read_236 (by decide) (by decide) (by decide) hf
def f_X1_read_216 (N : Nat) (k28 : Int32 → Int32 → Int32 → xS → Option xr) (x2 : Int32) (x3 : Int32) (x4 : Int32) (S : xS) : Option xr :=
  k28 x2 x3 (x4 + 1) S
set_option maxRecDepth 100000 in
set_option maxHeartbeats 4000000 in
theorem t_X1_read_216 {l : Launch} {w : xW} {g : Nat → xE} (N : Nat) (k28 : Int32 → Int32 → Int32 → xS → Option xr) (hk28 : ∀ (x2 : Int32) (x3 : Int32) (x4 : Int32) (S : xS) (r : xr), k28 x2 x3 x4 S = some r → ES l w g M_X1_read 28 [(0, .ref (w.2.1 + 407)), (2, .int x2), (3, .int x3), (4, .int x4)] [] S r) (x2 : Int32) (x3 : Int32) (x4 : Int32) (S : xS) (r : xr) (hf : f_X1_read_216 N k28 x2 x3 x4 S = some r) : ES l w g M_X1_read 216 [(0, .ref (w.2.1 + 407)), (2, .int x2), (3, .int x3), (4, .int x4)] [] S r := by
  unfold f_X1_read_216 at hf
  refine es_l (pc' := 28) (ls' := [(4, .int (x4 + 1)), (0, .ref (w.2.1 + 407)), (2, .int x2), (3, .int x3)]) (st' := []) (fun _ _ k => e_iinc (v := x4 + 1) (ls' := [(4, .int (x4 + 1)), (0, .ref (w.2.1 + 407)), (2, .int x2), (3, .int x3)]) dX1_read_216 3 rfl rfl (by decide) rfl (e_goto (tgt := 28) dX1_read_219 rfl k)) ?_
  refine es_sub [1, 2, 3, 0] rfl ?_
  exact hk28 x2 x3 (x4 + 1) S r hf
def f_X1_read_74 (N : Nat) (k28 : Int32 → Int32 → Int32 → xS → Option xr) (x2 : Int32) (x4 : Int32) (s0 : Int32) (S : xS) : Option xr :=
  f_X1_read_216 N k28 x2 s0 x4 S
set_option maxRecDepth 100000 in
set_option maxHeartbeats 4000000 in
theorem t_X1_read_74 {l : Launch} {w : xW} {g : Nat → xE} (N : Nat) (k28 : Int32 → Int32 → Int32 → xS → Option xr) (hk28 : ∀ (x2 : Int32) (x3 : Int32) (x4 : Int32) (S : xS) (r : xr), k28 x2 x3 x4 S = some r → ES l w g M_X1_read 28 [(0, .ref (w.2.1 + 407)), (2, .int x2), (3, .int x3), (4, .int x4)] [] S r) (x2 : Int32) (x4 : Int32) (s0 : Int32) (S : xS) (r : xr) (hf : f_X1_read_74 N k28 x2 x4 s0 S = some r) : ES l w g M_X1_read 74 [(0, .ref (w.2.1 + 407)), (2, .int x2), (4, .int x4)] [.int s0] S r := by
  unfold f_X1_read_74 at hf
  refine es_l (pc' := 216) (ls' := [(3, .int s0), (0, .ref (w.2.1 + 407)), (2, .int x2), (4, .int x4)]) (st' := []) (fun _ _ k => e_istore_n (ls' := [(3, .int s0), (0, .ref (w.2.1 + 407)), (2, .int x2), (4, .int x4)]) dX1_read_74 (by decide) rfl (e_goto (tgt := 216) dX1_read_75 rfl k)) ?_
  refine es_sub [1, 2, 0, 3] rfl ?_
  exact t_X1_read_216 N k28 hk28 x2 s0 x4 S r hf
def f_X1_read_47 (N : Nat) (k28 : Int32 → Int32 → Int32 → xS → Option xr) (x2 : Int32) (x3 : Int32) (x4 : Int32) (S : xS) : Option xr :=
  if x3 = 0 then
    xcI (f_X9_sort N S) (fun v90 S89 =>
    if v90 = 30 then
      xcI (f_X1_close N S89) (fun v93 S92 =>
      f_X1_read_74 N k28 x2 x4 v93 S92
      )
    else
      xcI (f_X1_join N S89) (fun v95 S94 =>
      f_X1_read_74 N k28 x2 x4 v95 S94
      )
    )
  else
    xcI (f_X9_sort N S) (fun v97 S96 =>
    if (v97 : Int32).toInt ∈ [(16 : Int), (25 : Int)] then
      xcV (f_X1_prefix N S96) (fun S99 =>
      f_X1_read_216 N k28 x2 x3 x4 S99
      )
    else
    if (v97 : Int32).toInt ∈ [(29 : Int)] then
      xcV (f_X7_enter N 29 S96) (fun S102 =>
      xcV (f_X1_push N 29 S102) (fun S104 =>
      f_X1_read_216 N k28 x2 x3 x4 (sI S104 407 6 ((S104.1 407 6) + 1))
      )
      )
    else
    if (v97 : Int32).toInt ∈ [(40 : Int)] then
      xcV (f_X1_named N S96) (fun S107 =>
      f_X1_read_216 N k28 x2 0 x4 S107
      )
    else
    if (v97 : Int32).toInt ∈ [(41 : Int)] then
      xcR (f_X5_addPart N 41 S96) (fun v111 S110 =>
      xcI (f_X9_number N S110) (fun v113 S112 =>
      if xPart v111 then
      xcV (f_X9_pass N (sI S112 v111 1 v113)) (fun S115 =>
      f_X1_read_216 N k28 x2 0 x4 S115
      )
      else none
      )
      )
    else
    xcI (f_X1_aggregate N S96) (fun v118 S117 =>
    f_X1_read_216 N k28 x2 v118 x4 S117
    )
    )
set_option maxRecDepth 100000 in
set_option maxHeartbeats 4000000 in
theorem t_X1_read_47 {l : Launch} {w : xW} {g : Nat → xE} (N : Nat) (k28 : Int32 → Int32 → Int32 → xS → Option xr) (hk28 : ∀ (x2 : Int32) (x3 : Int32) (x4 : Int32) (S : xS) (r : xr), k28 x2 x3 x4 S = some r → ES l w g M_X1_read 28 [(0, .ref (w.2.1 + 407)), (2, .int x2), (3, .int x3), (4, .int x4)] [] S r) (x2 : Int32) (x3 : Int32) (x4 : Int32) (S : xS) (r : xr) (hf : f_X1_read_47 N k28 x2 x3 x4 S = some r) : ES l w g M_X1_read 47 [(0, .ref (w.2.1 + 407)), (2, .int x2), (3, .int x3), (4, .int x4)] [] S r := by
  unfold f_X1_read_47 at hf
  refine es_l (pc' := 48) (ls' := [(0, .ref (w.2.1 + 407)), (2, .int x2), (3, .int x3), (4, .int x4)]) (st' := [.int x3]) (fun _ _ k => e_iload_n dX1_read_47 2 rfl k) ?_
  refine es_br (c := x3 = 0) (tgt := 51) (pf := 78) (st' := []) (fun _ _ a b => e_if_ne dX1_read_48 rfl b a) (fun c88 => ?_) (fun c88 => ?_)
  · rw [if_pos c88] at hf
    refine es_l (pc' := 52) (ls' := [(0, .ref (w.2.1 + 407)), (2, .int x2), (3, .int x3), (4, .int x4)]) (st' := [.ref (w.2.1 + 407)]) (fun _ _ k => e_aload_n dX1_read_51 0 rfl k) ?_
    refine es_get (v := .ref (w.2.1 + 1)) xc_1 dX1_read_52 fl_X1_15 (by decide) (by decide) (cel_407 _ _ _) rfl ?_
    refine es_callVI (as := []) (rest := []) hf xc_9 dX1_read_55 cs_X1_read_X9_sort ml_X1_50 im_X9_sort se_X9_sort rfl rfl (Nat.le_of_ble_eq_true rfl) (Nat.le_of_ble_eq_true rfl) (by decide) rfl (cel_1 _ _ _) (fun _ e => t_X9_sort N  S _ e) (by decide) (fun v90 S89 hf => ?_)
    refine es_l (pc' := 60) (ls' := [(0, .ref (w.2.1 + 407)), (2, .int x2), (3, .int x3), (4, .int x4)]) (st' := [.int 30, .int v90]) (fun _ _ k => e_bipush (v := 30) dX1_read_58 (by decide) k) ?_
    refine es_br (c := v90 = 30) (tgt := 63) (pf := 70) (st' := []) (fun _ _ a b => e_icmp_ne dX1_read_60 rfl b a) (fun c91 => ?_) (fun c91 => ?_)
    · rw [if_pos c91] at hf
      refine es_l (pc' := 64) (ls' := [(0, .ref (w.2.1 + 407)), (2, .int x2), (3, .int x3), (4, .int x4)]) (st' := [.ref (w.2.1 + 407)]) (fun _ _ k => e_aload_n dX1_read_63 0 rfl k) ?_
      refine es_callVI (as := []) (rest := []) hf xc_1 dX1_read_64 cs_X1_read_X1_close ml_X1_56 im_X1_close se_X1_close rfl rfl (Nat.le_of_ble_eq_true rfl) (Nat.le_of_ble_eq_true rfl) (by decide) rfl (cel_407 _ _ _) (fun _ e => t_X1_close N  S89 _ e) (by decide) (fun v93 S92 hf => ?_)
      refine es_l (pc' := 74) (ls' := [(0, .ref (w.2.1 + 407)), (2, .int x2), (3, .int x3), (4, .int x4)]) (st' := [.int v93]) (fun _ _ k => e_goto (tgt := 74) dX1_read_67 rfl k) ?_
      refine es_sub [0, 1, 3] rfl ?_
      exact t_X1_read_74 N k28 hk28 x2 x4 v93 S92 r hf
    · rw [if_neg c91] at hf
      refine es_l (pc' := 71) (ls' := [(0, .ref (w.2.1 + 407)), (2, .int x2), (3, .int x3), (4, .int x4)]) (st' := [.ref (w.2.1 + 407)]) (fun _ _ k => e_aload_n dX1_read_70 0 rfl k) ?_
      refine es_callVI (as := []) (rest := []) hf xc_1 dX1_read_71 cs_X1_read_X1_join ml_X1_59 im_X1_join se_X1_join rfl rfl (Nat.le_of_ble_eq_true rfl) (Nat.le_of_ble_eq_true rfl) (by decide) rfl (cel_407 _ _ _) (fun _ e => t_X1_join N  S89 _ e) (by decide) (fun v95 S94 hf => ?_)
      refine es_sub [0, 1, 3] rfl ?_
      exact t_X1_read_74 N k28 hk28 x2 x4 v95 S94 r hf
  · rw [if_neg c88] at hf
    refine es_l (pc' := 79) (ls' := [(0, .ref (w.2.1 + 407)), (2, .int x2), (3, .int x3), (4, .int x4)]) (st' := [.ref (w.2.1 + 407)]) (fun _ _ k => e_aload_n dX1_read_78 0 rfl k) ?_
    refine es_get (v := .ref (w.2.1 + 1)) xc_1 dX1_read_79 fl_X1_15 (by decide) (by decide) (cel_407 _ _ _) rfl ?_
    refine es_callVI (as := []) (rest := []) hf xc_9 dX1_read_82 cs_X1_read_X9_sort ml_X1_50 im_X9_sort se_X9_sort rfl rfl (Nat.le_of_ble_eq_true rfl) (Nat.le_of_ble_eq_true rfl) (by decide) rfl (cel_1 _ _ _) (fun _ e => t_X9_sort N  S _ e) (by decide) (fun v97 S96 hf => ?_)
    by_cases c98 : (v97 : Int32).toInt ∈ [(16 : Int), (25 : Int)]
    · rw [if_pos c98] at hf
      refine es_l (pc' := 204) (ls' := [(0, .ref (w.2.1 + 407)), (2, .int x2), (3, .int x3), (4, .int x4)]) (st' := []) (fun _ _ k => e_lookC (off := 119) dX1_read_85 c98 (by decide) rfl k) ?_
      refine es_l (pc' := 205) (ls' := [(0, .ref (w.2.1 + 407)), (2, .int x2), (3, .int x3), (4, .int x4)]) (st' := [.ref (w.2.1 + 407)]) (fun _ _ k => e_aload_n dX1_read_204 0 rfl k) ?_
      refine es_callVV (as := []) (rest := []) hf xc_1 dX1_read_205 cs_X1_read_X1_prefix ml_X1_88 im_X1_prefix se_X1_prefix rfl rfl (Nat.le_of_ble_eq_true rfl) (Nat.le_of_ble_eq_true rfl) (by decide) rfl (cel_407 _ _ _) (fun _ e => t_X1_prefix N  S96 _ e) (by decide) (fun S99 hf => ?_)
      refine es_l (pc' := 216) (ls' := [(0, .ref (w.2.1 + 407)), (2, .int x2), (3, .int x3), (4, .int x4)]) (st' := []) (fun _ _ k => e_goto (tgt := 216) dX1_read_208 rfl k) ?_
      exact t_X1_read_216 N k28 hk28 x2 x3 x4 S99 r hf
    rw [if_neg c98] at hf
    by_cases c101 : (v97 : Int32).toInt ∈ [(29 : Int)]
    · rw [if_pos c101] at hf
      refine es_l (pc' := 176) (ls' := [(0, .ref (w.2.1 + 407)), (2, .int x2), (3, .int x3), (4, .int x4)]) (st' := []) (fun _ _ k => e_lookC (off := 91) dX1_read_85 c101 (by decide) rfl k) ?_
      refine es_l (pc' := 177) (ls' := [(0, .ref (w.2.1 + 407)), (2, .int x2), (3, .int x3), (4, .int x4)]) (st' := [.ref (w.2.1 + 407)]) (fun _ _ k => e_aload_n dX1_read_176 0 rfl k) ?_
      refine es_get (v := .ref (w.2.1 + 405)) xc_1 dX1_read_177 fl_X1_27 (by decide) (by decide) (cel_407 _ _ _) rfl ?_
      refine es_l (pc' := 182) (ls' := [(0, .ref (w.2.1 + 407)), (2, .int x2), (3, .int x3), (4, .int x4)]) (st' := [.int 29, .ref (w.2.1 + 405)]) (fun _ _ k => e_bipush (v := 29) dX1_read_180 (by decide) k) ?_
      refine es_callVV (as := [.int 29]) (rest := []) hf xc_7 dX1_read_182 cs_X1_read_X7_enter ml_X1_79 im_X7_enter se_X7_enter rfl rfl (Nat.le_of_ble_eq_true rfl) (Nat.le_of_ble_eq_true rfl) (by decide) rfl (cel_405 _ _ _) (fun _ e => t_X7_enter N 29 S96 _ e) (by decide) (fun S102 hf => ?_)
      refine es_l (pc' := 188) (ls' := [(0, .ref (w.2.1 + 407)), (2, .int x2), (3, .int x3), (4, .int x4)]) (st' := [.int 29, .ref (w.2.1 + 407)]) (fun _ _ k => e_aload_n dX1_read_185 0 rfl (e_bipush (v := 29) dX1_read_186 (by decide) k)) ?_
      refine es_callVV (as := [.int 29]) (rest := []) hf xc_1 dX1_read_188 cs_X1_read_X1_push ml_X1_85 im_X1_push se_X1_push rfl rfl (Nat.le_of_ble_eq_true rfl) (Nat.le_of_ble_eq_true rfl) (by decide) rfl (cel_407 _ _ _) (fun _ e => t_X1_push N 29 S102 _ e) (by decide) (fun S104 hf => ?_)
      refine es_l (pc' := 193) (ls' := [(0, .ref (w.2.1 + 407)), (2, .int x2), (3, .int x3), (4, .int x4)]) (st' := [.ref (w.2.1 + 407), .ref (w.2.1 + 407)]) (fun _ _ k => e_aload_n dX1_read_191 0 rfl (e_dup dX1_read_192 rfl k)) ?_
      refine es_get (v := .int (S104.1 407 6)) xc_1 dX1_read_193 fl_X1_38 (by decide) (by decide) (cel_407 _ _ _) rfl ?_
      refine es_l (pc' := 198) (ls' := [(0, .ref (w.2.1 + 407)), (2, .int x2), (3, .int x3), (4, .int x4)]) (st' := [.int ((S104.1 407 6) + 1), .ref (w.2.1 + 407)]) (fun _ _ k => e_iconst (v := 1) dX1_read_196 (by decide) (e_iadd dX1_read_197 k)) ?_
      refine es_put xc_1 dX1_read_198 fl_X1_38 (by decide) (by decide) (by decide) (cel_407 _ _ _) rfl rfl rfl rfl ?_
      refine es_l (pc' := 216) (ls' := [(0, .ref (w.2.1 + 407)), (2, .int x2), (3, .int x3), (4, .int x4)]) (st' := []) (fun _ _ k => e_goto (tgt := 216) dX1_read_201 rfl k) ?_
      exact t_X1_read_216 N k28 hk28 x2 x3 x4 (sI S104 407 6 ((S104.1 407 6) + 1)) r hf
    rw [if_neg c101] at hf
    by_cases c106 : (v97 : Int32).toInt ∈ [(40 : Int)]
    · rw [if_pos c106] at hf
      refine es_l (pc' := 167) (ls' := [(0, .ref (w.2.1 + 407)), (2, .int x2), (3, .int x3), (4, .int x4)]) (st' := []) (fun _ _ k => e_lookC (off := 82) dX1_read_85 c106 (by decide) rfl k) ?_
      refine es_l (pc' := 168) (ls' := [(0, .ref (w.2.1 + 407)), (2, .int x2), (3, .int x3), (4, .int x4)]) (st' := [.ref (w.2.1 + 407)]) (fun _ _ k => e_aload_n dX1_read_167 0 rfl k) ?_
      refine es_callVV (as := []) (rest := []) hf xc_1 dX1_read_168 cs_X1_read_X1_named ml_X1_76 im_X1_named se_X1_named rfl rfl (Nat.le_of_ble_eq_true rfl) (Nat.le_of_ble_eq_true rfl) (by decide) rfl (cel_407 _ _ _) (fun _ e => t_X1_named N  S96 _ e) (by decide) (fun S107 hf => ?_)
      refine es_l (pc' := 216) (ls' := [(3, .int 0), (0, .ref (w.2.1 + 407)), (2, .int x2), (4, .int x4)]) (st' := []) (fun _ _ k => e_iconst (v := 0) dX1_read_171 (by decide) (e_istore_n (ls' := [(3, .int 0), (0, .ref (w.2.1 + 407)), (2, .int x2), (4, .int x4)]) dX1_read_172 (by decide) rfl (e_goto (tgt := 216) dX1_read_173 rfl k))) ?_
      refine es_sub [1, 2, 0, 3] rfl ?_
      exact t_X1_read_216 N k28 hk28 x2 0 x4 S107 r hf
    rw [if_neg c106] at hf
    by_cases c109 : (v97 : Int32).toInt ∈ [(41 : Int)]
    · rw [if_pos c109] at hf
      refine es_l (pc' := 136) (ls' := [(0, .ref (w.2.1 + 407)), (2, .int x2), (3, .int x3), (4, .int x4)]) (st' := []) (fun _ _ k => e_lookC (off := 51) dX1_read_85 c109 (by decide) rfl k) ?_
      refine es_l (pc' := 137) (ls' := [(0, .ref (w.2.1 + 407)), (2, .int x2), (3, .int x3), (4, .int x4)]) (st' := [.ref (w.2.1 + 407)]) (fun _ _ k => e_aload_n dX1_read_136 0 rfl k) ?_
      refine es_get (v := .ref (w.2.1 + 97)) xc_1 dX1_read_137 fl_X1_23 (by decide) (by decide) (cel_407 _ _ _) rfl ?_
      refine es_l (pc' := 142) (ls' := [(0, .ref (w.2.1 + 407)), (2, .int x2), (3, .int x3), (4, .int x4)]) (st' := [.int 41, .ref (w.2.1 + 97)]) (fun _ _ k => e_bipush (v := 41) dX1_read_140 (by decide) k) ?_
      refine es_callVR (as := [.int 41]) (rest := []) hf xc_5 dX1_read_142 cs_X1_read_X5_addPart ml_X1_62 im_X5_addPart se_X5_addPart rfl rfl (Nat.le_of_ble_eq_true rfl) (Nat.le_of_ble_eq_true rfl) (by decide) rfl (cel_97 _ _ _) (fun _ e => t_X5_addPart N 41 S96 _ e) (by decide) (fun v111 S110 hf => ?_)
      refine es_l (pc' := 146) (ls' := [(0, .ref (w.2.1 + 407)), (2, .int x2), (3, .int x3), (4, .int x4)]) (st' := [.ref (w.2.1 + 407), .ref (w.2.1 + v111)]) (fun _ _ k => e_aload_n dX1_read_145 0 rfl k) ?_
      refine es_get (v := .ref (w.2.1 + 1)) xc_1 dX1_read_146 fl_X1_15 (by decide) (by decide) (cel_407 _ _ _) rfl ?_
      refine es_callVI (as := []) (rest := [.ref (w.2.1 + v111)]) hf xc_9 dX1_read_149 cs_X1_read_X9_number ml_X1_66 im_X9_number se_X9_number rfl rfl (Nat.le_of_ble_eq_true rfl) (Nat.le_of_ble_eq_true rfl) (by decide) rfl (cel_1 _ _ _) (fun _ e => t_X9_number N  S110 _ e) (by decide) (fun v113 S112 hf => ?_)
      obtain ⟨g114, hf⟩ := xg hf
      refine es_put xc_4 dX1_read_152 fl_X1_69 (by decide) (by decide) (xPart_lt g114) (cel_pa g114 _ _ _) rfl rfl rfl (by rw [cel_pa g114]; rfl) ?_
      refine es_l (pc' := 156) (ls' := [(0, .ref (w.2.1 + 407)), (2, .int x2), (3, .int x3), (4, .int x4)]) (st' := [.ref (w.2.1 + 407)]) (fun _ _ k => e_aload_n dX1_read_155 0 rfl k) ?_
      refine es_get (v := .ref (w.2.1 + 1)) xc_1 dX1_read_156 fl_X1_15 (by decide) (by decide) (cel_407 _ _ _) rfl ?_
      refine es_callVV (as := []) (rest := []) hf xc_9 dX1_read_159 cs_X1_read_X9_pass ml_X1_73 im_X9_pass se_X9_pass rfl rfl (Nat.le_of_ble_eq_true rfl) (Nat.le_of_ble_eq_true rfl) (by decide) rfl (cel_1 _ _ _) (fun _ e => t_X9_pass N  (sI S112 v111 1 v113) _ e) (by decide) (fun S115 hf => ?_)
      refine es_l (pc' := 216) (ls' := [(3, .int 0), (0, .ref (w.2.1 + 407)), (2, .int x2), (4, .int x4)]) (st' := []) (fun _ _ k => e_iconst (v := 0) dX1_read_162 (by decide) (e_istore_n (ls' := [(3, .int 0), (0, .ref (w.2.1 + 407)), (2, .int x2), (4, .int x4)]) dX1_read_163 (by decide) rfl (e_goto (tgt := 216) dX1_read_164 rfl k))) ?_
      refine es_sub [1, 2, 0, 3] rfl ?_
      exact t_X1_read_216 N k28 hk28 x2 0 x4 S115 r hf
    rw [if_neg c109] at hf
    refine es_l (pc' := 211) (ls' := [(0, .ref (w.2.1 + 407)), (2, .int x2), (3, .int x3), (4, .int x4)]) (st' := []) (fun _ _ k => e_lookD (L := [16, 25, 29, 40, 41]) dX1_read_85 (by  simp only [List.mem_cons, List.not_mem_nil, or_false] at *; omega) (by decide) rfl k) ?_
    refine es_l (pc' := 212) (ls' := [(0, .ref (w.2.1 + 407)), (2, .int x2), (3, .int x3), (4, .int x4)]) (st' := [.ref (w.2.1 + 407)]) (fun _ _ k => e_aload_n dX1_read_211 0 rfl k) ?_
    refine es_callVI (as := []) (rest := []) hf xc_1 dX1_read_212 cs_X1_read_X1_aggregate ml_X1_91 im_X1_aggregate se_X1_aggregate rfl rfl (Nat.le_of_ble_eq_true rfl) (Nat.le_of_ble_eq_true rfl) (by decide) rfl (cel_407 _ _ _) (fun _ e => t_X1_aggregate N  S96 _ e) (by decide) (fun v118 S117 hf => ?_)
    refine es_l (pc' := 216) (ls' := [(3, .int v118), (0, .ref (w.2.1 + 407)), (2, .int x2), (4, .int x4)]) (st' := []) (fun _ _ k => e_istore_n (ls' := [(3, .int v118), (0, .ref (w.2.1 + 407)), (2, .int x2), (4, .int x4)]) dX1_read_215 (by decide) rfl k) ?_
    refine es_sub [1, 2, 0, 3] rfl ?_
    exact t_X1_read_216 N k28 hk28 x2 v118 x4 S117 r hf
def f_X1_read_28 (N : Nat)  : Nat → Int32 → Int32 → Int32 → xS → Option xr
  | 0, _, _, _, _ => none
  | n + 1, x2, x3, x4, S =>
  if 150 < x4 then
    f_X1_read_222 N x2 S
  else
    if x3 = 0 then
      xcI (f_X1_goesOn N S) (fun v122 S121 =>
      if v122 = 0 then
        f_X1_read_222 N x2 S121
      else
        f_X1_read_47 N (f_X1_read_28 N n) x2 x3 x4 S121
      )
    else
      f_X1_read_47 N (f_X1_read_28 N n) x2 x3 x4 S
set_option maxRecDepth 100000 in
set_option maxHeartbeats 4000000 in
theorem t_X1_read_28 {l : Launch} {w : xW} {g : Nat → xE} (N : Nat)   : ∀ (n : Nat) (x2 : Int32) (x3 : Int32) (x4 : Int32) (S : xS) (r : xr), f_X1_read_28 N  n x2 x3 x4 S = some r → ES l w g M_X1_read 28 [(0, .ref (w.2.1 + 407)), (2, .int x2), (3, .int x3), (4, .int x4)] [] S r := by
  intro n
  induction n with
  | zero => intro x2 x3 x4 S r hf; cases hf
  | succ n ih =>
    intro x2 x3 x4 S r hf
    rw [f_X1_read_28.eq_2] at hf
    refine es_l (pc' := 33) (ls' := [(0, .ref (w.2.1 + 407)), (2, .int x2), (3, .int x3), (4, .int x4)]) (st' := [.int 150, .int x4]) (fun _ _ k => e_iload dX1_read_28 3 rfl (e_sipush (v := 150) dX1_read_30 (by decide) k)) ?_
    refine es_br (c := 150 < x4) (tgt := 222) (pf := 36) (st' := []) (fun _ _ a b => e_icmp_gt dX1_read_33 rfl a b) (fun c119 => ?_) (fun c119 => ?_)
    · rw [if_pos c119] at hf
      refine es_sub [0, 1] rfl ?_
      exact t_X1_read_222 N x2 S r hf
    · rw [if_neg c119] at hf
      refine es_l (pc' := 37) (ls' := [(0, .ref (w.2.1 + 407)), (2, .int x2), (3, .int x3), (4, .int x4)]) (st' := [.int x3]) (fun _ _ k => e_iload_n dX1_read_36 2 rfl k) ?_
      refine es_br (c := x3 = 0) (tgt := 40) (pf := 47) (st' := []) (fun _ _ a b => e_if_ne dX1_read_37 rfl b a) (fun c120 => ?_) (fun c120 => ?_)
      · rw [if_pos c120] at hf
        refine es_l (pc' := 41) (ls' := [(0, .ref (w.2.1 + 407)), (2, .int x2), (3, .int x3), (4, .int x4)]) (st' := [.ref (w.2.1 + 407)]) (fun _ _ k => e_aload_n dX1_read_40 0 rfl k) ?_
        refine es_callVI (as := []) (rest := []) hf xc_1 dX1_read_41 cs_X1_read_X1_goesOn ml_X1_46 im_X1_goesOn se_X1_goesOn rfl rfl (Nat.le_of_ble_eq_true rfl) (Nat.le_of_ble_eq_true rfl) (by decide) rfl (cel_407 _ _ _) (fun _ e => t_X1_goesOn N  S _ e) (by decide) (fun v122 S121 hf => ?_)
        refine es_br (c := v122 = 0) (tgt := 222) (pf := 47) (st' := []) (fun _ _ a b => e_if_eq dX1_read_44 rfl a b) (fun c123 => ?_) (fun c123 => ?_)
        · rw [if_pos c123] at hf
          refine es_sub [0, 1] rfl ?_
          exact t_X1_read_222 N x2 S121 r hf
        · rw [if_neg c123] at hf
          exact t_X1_read_47 N (f_X1_read_28 N n) ih x2 x3 x4 S121 r hf
      · rw [if_neg c120] at hf
        exact t_X1_read_47 N (f_X1_read_28 N n) ih x2 x3 x4 S r hf
def f_X1_read (N : Nat) (x1 : Int32) (S : xS) : Option xr :=
  f_X1_read_28 N N (S.1 97 5) 1 0 (sI (sI (sI S 407 7 x1) 407 5 0) 407 6 0)
set_option maxRecDepth 100000 in
set_option maxHeartbeats 4000000 in
theorem t_X1_read {l : Launch} {w : xW} {g : Nat → xE} (N : Nat) (x1 : Int32) (S : xS) (r : xr) (hf : f_X1_read N x1 S = some r) : ES l w g M_X1_read 0 (lv_args 0 [.ref (w.2.1 + 407), .int x1]) [] S r := by
  show ES l w g M_X1_read 0 [(0, .ref (w.2.1 + 407)), (1, .int x1)] [] S r
  unfold f_X1_read at hf
  refine es_l (pc' := 2) (ls' := [(0, .ref (w.2.1 + 407)), (1, .int x1)]) (st' := [.int x1, .ref (w.2.1 + 407)]) (fun _ _ k => e_aload_n dX1_read_0 0 rfl (e_iload_n dX1_read_1 1 rfl k)) ?_
  refine es_put xc_1 dX1_read_2 fl_X1_31 (by decide) (by decide) (by decide) (cel_407 _ _ _) rfl rfl rfl rfl ?_
  refine es_l (pc' := 7) (ls' := [(0, .ref (w.2.1 + 407)), (1, .int x1)]) (st' := [.int 0, .ref (w.2.1 + 407)]) (fun _ _ k => e_aload_n dX1_read_5 0 rfl (e_iconst (v := 0) dX1_read_6 (by decide) k)) ?_
  refine es_put xc_1 dX1_read_7 fl_X1_35 (by decide) (by decide) (by decide) (cel_407 _ _ _) rfl rfl rfl rfl ?_
  refine es_l (pc' := 12) (ls' := [(0, .ref (w.2.1 + 407)), (1, .int x1)]) (st' := [.int 0, .ref (w.2.1 + 407)]) (fun _ _ k => e_aload_n dX1_read_10 0 rfl (e_iconst (v := 0) dX1_read_11 (by decide) k)) ?_
  refine es_put xc_1 dX1_read_12 fl_X1_38 (by decide) (by decide) (by decide) (cel_407 _ _ _) rfl rfl rfl rfl ?_
  refine es_l (pc' := 16) (ls' := [(0, .ref (w.2.1 + 407)), (1, .int x1)]) (st' := [.ref (w.2.1 + 407)]) (fun _ _ k => e_aload_n dX1_read_15 0 rfl k) ?_
  refine es_get (v := .ref (w.2.1 + 97)) xc_1 dX1_read_16 fl_X1_23 (by decide) (by decide) (cel_407 _ _ _) rfl ?_
  refine es_get (v := .int (S.1 97 5)) xc_5 dX1_read_19 fl_X1_41 (by decide) (by decide) (cel_97 _ _ _) rfl ?_
  refine es_l (pc' := 28) (ls' := [(4, .int 0), (3, .int 1), (2, .int (S.1 97 5)), (0, .ref (w.2.1 + 407)), (1, .int x1)]) (st' := []) (fun _ _ k => e_istore_n (ls' := [(2, .int (S.1 97 5)), (0, .ref (w.2.1 + 407)), (1, .int x1)]) dX1_read_22 (by decide) rfl (e_iconst (v := 1) dX1_read_23 (by decide) (e_istore_n (ls' := [(3, .int 1), (2, .int (S.1 97 5)), (0, .ref (w.2.1 + 407)), (1, .int x1)]) dX1_read_24 (by decide) rfl (e_iconst (v := 0) dX1_read_25 (by decide) (e_istore (ls' := [(4, .int 0), (3, .int 1), (2, .int (S.1 97 5)), (0, .ref (w.2.1 + 407)), (1, .int x1)]) dX1_read_26 (by decide) rfl k))))) ?_
  refine es_sub [3, 2, 1, 0] rfl ?_
  exact t_X1_read_28 N N (S.1 97 5) 1 0 (sI (sI (sI S 407 7 x1) 407 5 0) 407 6 0) r hf
def f_X2_spend (N : Nat)  (S : xS) : Option xr :=
  if (S.1 409 10) = (S.1 409 9) then
    some (.inl (some (.inl 0)), S)
  else
    some (.inl (some (.inl 1)), sI S 409 10 ((S.1 409 10) + 1))
set_option maxRecDepth 100000 in
set_option maxHeartbeats 4000000 in
theorem t_X2_spend {l : Launch} {w : xW} {g : Nat → xE} (N : Nat)  (S : xS) (r : xr) (hf : f_X2_spend N  S = some r) : ES l w g M_X2_spend 0 (lv_args 0 [.ref (w.2.1 + 409)]) [] S r := by
  show ES l w g M_X2_spend 0 [(0, .ref (w.2.1 + 409))] [] S r
  unfold f_X2_spend at hf
  refine es_l (pc' := 1) (ls' := [(0, .ref (w.2.1 + 409))]) (st' := [.ref (w.2.1 + 409)]) (fun _ _ k => e_aload_n dX2_spend_0 0 rfl k) ?_
  refine es_get (v := .int (S.1 409 10)) xc_2 dX2_spend_1 fl_X2_51 (by decide) (by decide) (cel_409 _ _ _) rfl ?_
  refine es_l (pc' := 5) (ls' := [(0, .ref (w.2.1 + 409))]) (st' := [.ref (w.2.1 + 409), .int (S.1 409 10)]) (fun _ _ k => e_aload_n dX2_spend_4 0 rfl k) ?_
  refine es_get (v := .int (S.1 409 9)) xc_2 dX2_spend_5 fl_X2_47 (by decide) (by decide) (cel_409 _ _ _) rfl ?_
  refine es_br (c := (S.1 409 10) = (S.1 409 9)) (tgt := 11) (pf := 13) (st' := []) (fun _ _ a b => e_icmp_ne dX2_spend_8 rfl b a) (fun c2 => ?_) (fun c2 => ?_)
  · rw [if_pos c2] at hf
    refine es_l (pc' := 12) (ls' := [(0, .ref (w.2.1 + 409))]) (st' := [.int 0]) (fun _ _ k => e_iconst (v := 0) dX2_spend_11 (by decide) k) ?_
    exact es_ireturn (ty := .boolean) dX2_spend_12 rfl rfl hf
  · rw [if_neg c2] at hf
    refine es_l (pc' := 15) (ls' := [(0, .ref (w.2.1 + 409))]) (st' := [.ref (w.2.1 + 409), .ref (w.2.1 + 409)]) (fun _ _ k => e_aload_n dX2_spend_13 0 rfl (e_dup dX2_spend_14 rfl k)) ?_
    refine es_get (v := .int (S.1 409 10)) xc_2 dX2_spend_15 fl_X2_51 (by decide) (by decide) (cel_409 _ _ _) rfl ?_
    refine es_l (pc' := 20) (ls' := [(0, .ref (w.2.1 + 409))]) (st' := [.int ((S.1 409 10) + 1), .ref (w.2.1 + 409)]) (fun _ _ k => e_iconst (v := 1) dX2_spend_18 (by decide) (e_iadd dX2_spend_19 k)) ?_
    refine es_put xc_2 dX2_spend_20 fl_X2_51 (by decide) (by decide) (by decide) (cel_409 _ _ _) rfl rfl rfl rfl ?_
    refine es_l (pc' := 24) (ls' := [(0, .ref (w.2.1 + 409))]) (st' := [.int 1]) (fun _ _ k => e_iconst (v := 1) dX2_spend_23 (by decide) k) ?_
    exact es_ireturn (ty := .boolean) dX2_spend_24 rfl rfl hf
def f_X2_joined_147 (N : Nat)  (s0 : Int32) (S : xS) : Option xr :=
  some (.inl (some (.inl s0)), S)
set_option maxRecDepth 100000 in
set_option maxHeartbeats 4000000 in
theorem t_X2_joined_147 {l : Launch} {w : xW} {g : Nat → xE} (N : Nat)   (s0 : Int32) (S : xS) (r : xr) (hf : f_X2_joined_147 N  s0 S = some r) : ES l w g M_X2_joined 147 [] [.int s0] S r := by
  unfold f_X2_joined_147 at hf
  exact es_ireturn (ty := .int) dX2_joined_147 rfl rfl hf
def f_X2_joined_146 (N : Nat)   (S : xS) : Option xr :=
  f_X2_joined_147 N 0 S
set_option maxRecDepth 100000 in
set_option maxHeartbeats 4000000 in
theorem t_X2_joined_146 {l : Launch} {w : xW} {g : Nat → xE} (N : Nat)    (S : xS) (r : xr) (hf : f_X2_joined_146 N   S = some r) : ES l w g M_X2_joined 146 [] [] S r := by
  unfold f_X2_joined_146 at hf
  refine es_l (pc' := 147) (ls' := []) (st' := [.int 0]) (fun _ _ k => e_iconst (v := 0) dX2_joined_146 (by decide) k) ?_
  exact t_X2_joined_147 N 0 S r hf
def f_X2_joined_133 (N : Nat)  (s0 : Int32) (S : xS) : Option xr :=
  some (.inl (some (.inl s0)), S)
set_option maxRecDepth 100000 in
set_option maxHeartbeats 4000000 in
theorem t_X2_joined_133 {l : Launch} {w : xW} {g : Nat → xE} (N : Nat)   (s0 : Int32) (S : xS) (r : xr) (hf : f_X2_joined_133 N  s0 S = some r) : ES l w g M_X2_joined 133 [] [.int s0] S r := by
  unfold f_X2_joined_133 at hf
  exact es_ireturn (ty := .int) dX2_joined_133 rfl rfl hf
def f_X2_joined_128 (N : Nat)   (S : xS) : Option xr :=
  f_X2_joined_133 N 1 S
set_option maxRecDepth 100000 in
set_option maxHeartbeats 4000000 in
theorem t_X2_joined_128 {l : Launch} {w : xW} {g : Nat → xE} (N : Nat)    (S : xS) (r : xr) (hf : f_X2_joined_128 N   S = some r) : ES l w g M_X2_joined 128 [] [] S r := by
  unfold f_X2_joined_128 at hf
  refine es_l (pc' := 133) (ls' := []) (st' := [.int 1]) (fun _ _ k => e_iconst (v := 1) dX2_joined_128 (by decide) (e_goto (tgt := 133) dX2_joined_129 rfl k)) ?_
  exact t_X2_joined_133 N 1 S r hf
def f_X2_joined_249 (N : Nat)  (s0 : Int32) (S : xS) : Option xr :=
  some (.inl (some (.inl s0)), S)
set_option maxRecDepth 100000 in
set_option maxHeartbeats 4000000 in
theorem t_X2_joined_249 {l : Launch} {w : xW} {g : Nat → xE} (N : Nat)   (s0 : Int32) (S : xS) (r : xr) (hf : f_X2_joined_249 N  s0 S = some r) : ES l w g M_X2_joined 249 [] [.int s0] S r := by
  unfold f_X2_joined_249 at hf
  exact es_ireturn (ty := .int) dX2_joined_249 rfl rfl hf
def f_X2_joined_158 (N : Nat)  (s0 : Int32) (S : xS) : Option xr :=
  some (.inl (some (.inl s0)), S)
set_option maxRecDepth 100000 in
set_option maxHeartbeats 4000000 in
theorem t_X2_joined_158 {l : Launch} {w : xW} {g : Nat → xE} (N : Nat)   (s0 : Int32) (S : xS) (r : xr) (hf : f_X2_joined_158 N  s0 S = some r) : ES l w g M_X2_joined 158 [] [.int s0] S r := by
  unfold f_X2_joined_158 at hf
  exact es_ireturn (ty := .int) dX2_joined_158 rfl rfl hf
def f_X2_joined_180 (N : Nat)  (s0 : Int32) (S : xS) : Option xr :=
  some (.inl (some (.inl s0)), S)
set_option maxRecDepth 100000 in
set_option maxHeartbeats 4000000 in
theorem t_X2_joined_180 {l : Launch} {w : xW} {g : Nat → xE} (N : Nat)   (s0 : Int32) (S : xS) (r : xr) (hf : f_X2_joined_180 N  s0 S = some r) : ES l w g M_X2_joined 180 [] [.int s0] S r := by
  unfold f_X2_joined_180 at hf
  exact es_ireturn (ty := .int) dX2_joined_180 rfl rfl hf
def f_X2_joined_202 (N : Nat)  (s0 : Int32) (S : xS) : Option xr :=
  some (.inl (some (.inl s0)), S)
set_option maxRecDepth 100000 in
set_option maxHeartbeats 4000000 in
theorem t_X2_joined_202 {l : Launch} {w : xW} {g : Nat → xE} (N : Nat)   (s0 : Int32) (S : xS) (r : xr) (hf : f_X2_joined_202 N  s0 S = some r) : ES l w g M_X2_joined 202 [] [.int s0] S r := by
  unfold f_X2_joined_202 at hf
  exact es_ireturn (ty := .int) dX2_joined_202 rfl rfl hf
def f_X2_joined_237 (N : Nat)  (s0 : Int32) (S : xS) : Option xr :=
  some (.inl (some (.inl s0)), S)
set_option maxRecDepth 100000 in
set_option maxHeartbeats 4000000 in
theorem t_X2_joined_237 {l : Launch} {w : xW} {g : Nat → xE} (N : Nat)   (s0 : Int32) (S : xS) (r : xr) (hf : f_X2_joined_237 N  s0 S = some r) : ES l w g M_X2_joined 237 [] [.int s0] S r := by
  unfold f_X2_joined_237 at hf
  exact es_ireturn (ty := .int) dX2_joined_237 rfl rfl hf
def f_X2_joined_169 (N : Nat)  (s0 : Int32) (S : xS) : Option xr :=
  some (.inl (some (.inl s0)), S)
set_option maxRecDepth 100000 in
set_option maxHeartbeats 4000000 in
theorem t_X2_joined_169 {l : Launch} {w : xW} {g : Nat → xE} (N : Nat)   (s0 : Int32) (S : xS) (r : xr) (hf : f_X2_joined_169 N  s0 S = some r) : ES l w g M_X2_joined 169 [] [.int s0] S r := by
  unfold f_X2_joined_169 at hf
  exact es_ireturn (ty := .int) dX2_joined_169 rfl rfl hf
def f_X2_joined_191 (N : Nat)  (s0 : Int32) (S : xS) : Option xr :=
  some (.inl (some (.inl s0)), S)
set_option maxRecDepth 100000 in
set_option maxHeartbeats 4000000 in
theorem t_X2_joined_191 {l : Launch} {w : xW} {g : Nat → xE} (N : Nat)   (s0 : Int32) (S : xS) (r : xr) (hf : f_X2_joined_191 N  s0 S = some r) : ES l w g M_X2_joined 191 [] [.int s0] S r := by
  unfold f_X2_joined_191 at hf
  exact es_ireturn (ty := .int) dX2_joined_191 rfl rfl hf
def f_X2_joined_213 (N : Nat)  (s0 : Int32) (S : xS) : Option xr :=
  some (.inl (some (.inl s0)), S)
set_option maxRecDepth 100000 in
set_option maxHeartbeats 4000000 in
theorem t_X2_joined_213 {l : Launch} {w : xW} {g : Nat → xE} (N : Nat)   (s0 : Int32) (S : xS) (r : xr) (hf : f_X2_joined_213 N  s0 S = some r) : ES l w g M_X2_joined 213 [] [.int s0] S r := by
  unfold f_X2_joined_213 at hf
  exact es_ireturn (ty := .int) dX2_joined_213 rfl rfl hf
def f_X2_joined (N : Nat) (x0 : Int32) (x1 : Int32) (x2 : Int32) (S : xS) : Option xr :=
  if (x0 : Int32).toInt ∈ [(14 : Int)] then
    if x1 = 0 then
      f_X2_joined_146 N S
    else
      if x2 = 0 then
        f_X2_joined_146 N S
      else
        f_X2_joined_147 N 1 S
  else
  if (x0 : Int32).toInt ∈ [(15 : Int)] then
    if x1 = 0 then
      if x2 = 0 then
        f_X2_joined_133 N 0 S
      else
        f_X2_joined_128 N S
    else
      f_X2_joined_128 N S
  else
  if (x0 : Int32).toInt ∈ [(21 : Int)] then
    if x1 = x2 then
      f_X2_joined_158 N 1 S
    else
      f_X2_joined_158 N 0 S
  else
  if (x0 : Int32).toInt ∈ [(22 : Int)] then
    if x2 ≤ x1 then
      f_X2_joined_180 N 0 S
    else
      f_X2_joined_180 N 1 S
  else
  if (x0 : Int32).toInt ∈ [(23 : Int)] then
    if x1 ≤ x2 then
      f_X2_joined_202 N 0 S
    else
      f_X2_joined_202 N 1 S
  else
  if (x0 : Int32).toInt ∈ [(24 : Int)] then
    some (.inl (some (.inl (x1 + x2))), S)
  else
  if (x0 : Int32).toInt ∈ [(25 : Int)] then
    some (.inl (some (.inl (x1 - x2))), S)
  else
  if (x0 : Int32).toInt ∈ [(26 : Int)] then
    some (.inl (some (.inl (x1 * x2))), S)
  else
  if (x0 : Int32).toInt ∈ [(27 : Int)] then
    if x2 = 0 then
      f_X2_joined_237 N 0 S
    else
      if ¬ x2 = 0 then
      f_X2_joined_237 N (x1 / x2) S
      else none
  else
  if (x0 : Int32).toInt ∈ [(37 : Int)] then
    if x1 = x2 then
      f_X2_joined_169 N 0 S
    else
      f_X2_joined_169 N 1 S
  else
  if (x0 : Int32).toInt ∈ [(38 : Int)] then
    if x2 < x1 then
      f_X2_joined_191 N 0 S
    else
      f_X2_joined_191 N 1 S
  else
  if (x0 : Int32).toInt ∈ [(39 : Int)] then
    if x1 < x2 then
      f_X2_joined_213 N 0 S
    else
      f_X2_joined_213 N 1 S
  else
  if x2 = 0 then
    f_X2_joined_249 N 0 S
  else
    if ¬ x2 = 0 then
    f_X2_joined_249 N (x1 - x1 / x2 * x2) S
    else none
set_option maxRecDepth 100000 in
set_option maxHeartbeats 4000000 in
theorem t_X2_joined {l : Launch} {w : xW} {g : Nat → xE} (N : Nat) (x0 : Int32) (x1 : Int32) (x2 : Int32) (S : xS) (r : xr) (hf : f_X2_joined N x0 x1 x2 S = some r) : ES l w g M_X2_joined 0 (lv_args 0 [.int x0, .int x1, .int x2]) [] S r := by
  show ES l w g M_X2_joined 0 [(0, .int x0), (1, .int x1), (2, .int x2)] [] S r
  unfold f_X2_joined at hf
  refine es_l (pc' := 1) (ls' := [(0, .int x0), (1, .int x1), (2, .int x2)]) (st' := [.int x0]) (fun _ _ k => e_iload_n dX2_joined_0 0 rfl k) ?_
  by_cases c53 : (x0 : Int32).toInt ∈ [(14 : Int)]
  · rw [if_pos c53] at hf
    refine es_l (pc' := 134) (ls' := [(0, .int x0), (1, .int x1), (2, .int x2)]) (st' := []) (fun _ _ k => e_tabC (off := 133) dX2_joined_1 c53 (by decide) rfl k) ?_
    refine es_l (pc' := 135) (ls' := [(0, .int x0), (1, .int x1), (2, .int x2)]) (st' := [.int x1]) (fun _ _ k => e_iload_n dX2_joined_134 1 rfl k) ?_
    refine es_br (c := x1 = 0) (tgt := 146) (pf := 138) (st' := []) (fun _ _ a b => e_if_eq dX2_joined_135 rfl a b) (fun c54 => ?_) (fun c54 => ?_)
    · rw [if_pos c54] at hf
      refine es_sub [] rfl ?_
      exact t_X2_joined_146 N S r hf
    · rw [if_neg c54] at hf
      refine es_l (pc' := 139) (ls' := [(0, .int x0), (1, .int x1), (2, .int x2)]) (st' := [.int x2]) (fun _ _ k => e_iload_n dX2_joined_138 2 rfl k) ?_
      refine es_br (c := x2 = 0) (tgt := 146) (pf := 142) (st' := []) (fun _ _ a b => e_if_eq dX2_joined_139 rfl a b) (fun c55 => ?_) (fun c55 => ?_)
      · rw [if_pos c55] at hf
        refine es_sub [] rfl ?_
        exact t_X2_joined_146 N S r hf
      · rw [if_neg c55] at hf
        refine es_l (pc' := 147) (ls' := [(0, .int x0), (1, .int x1), (2, .int x2)]) (st' := [.int 1]) (fun _ _ k => e_iconst (v := 1) dX2_joined_142 (by decide) (e_goto (tgt := 147) dX2_joined_143 rfl k)) ?_
        refine es_sub [] rfl ?_
        exact t_X2_joined_147 N 1 S r hf
  rw [if_neg c53] at hf
  by_cases c56 : (x0 : Int32).toInt ∈ [(15 : Int)]
  · rw [if_pos c56] at hf
    refine es_l (pc' := 120) (ls' := [(0, .int x0), (1, .int x1), (2, .int x2)]) (st' := []) (fun _ _ k => e_tabC (off := 119) dX2_joined_1 c56 (by decide) rfl k) ?_
    refine es_l (pc' := 121) (ls' := [(0, .int x0), (1, .int x1), (2, .int x2)]) (st' := [.int x1]) (fun _ _ k => e_iload_n dX2_joined_120 1 rfl k) ?_
    refine es_br (c := x1 = 0) (tgt := 124) (pf := 128) (st' := []) (fun _ _ a b => e_if_ne dX2_joined_121 rfl b a) (fun c57 => ?_) (fun c57 => ?_)
    · rw [if_pos c57] at hf
      refine es_l (pc' := 125) (ls' := [(0, .int x0), (1, .int x1), (2, .int x2)]) (st' := [.int x2]) (fun _ _ k => e_iload_n dX2_joined_124 2 rfl k) ?_
      refine es_br (c := x2 = 0) (tgt := 132) (pf := 128) (st' := []) (fun _ _ a b => e_if_eq dX2_joined_125 rfl a b) (fun c58 => ?_) (fun c58 => ?_)
      · rw [if_pos c58] at hf
        refine es_l (pc' := 133) (ls' := [(0, .int x0), (1, .int x1), (2, .int x2)]) (st' := [.int 0]) (fun _ _ k => e_iconst (v := 0) dX2_joined_132 (by decide) k) ?_
        refine es_sub [] rfl ?_
        exact t_X2_joined_133 N 0 S r hf
      · rw [if_neg c58] at hf
        refine es_sub [] rfl ?_
        exact t_X2_joined_128 N S r hf
    · rw [if_neg c57] at hf
      refine es_sub [] rfl ?_
      exact t_X2_joined_128 N S r hf
  rw [if_neg c56] at hf
  by_cases c59 : (x0 : Int32).toInt ∈ [(21 : Int)]
  · rw [if_pos c59] at hf
    refine es_l (pc' := 148) (ls' := [(0, .int x0), (1, .int x1), (2, .int x2)]) (st' := []) (fun _ _ k => e_tabC (off := 147) dX2_joined_1 c59 (by decide) rfl k) ?_
    refine es_l (pc' := 150) (ls' := [(0, .int x0), (1, .int x1), (2, .int x2)]) (st' := [.int x2, .int x1]) (fun _ _ k => e_iload_n dX2_joined_148 1 rfl (e_iload_n dX2_joined_149 2 rfl k)) ?_
    refine es_br (c := x1 = x2) (tgt := 153) (pf := 157) (st' := []) (fun _ _ a b => e_icmp_ne dX2_joined_150 rfl b a) (fun c60 => ?_) (fun c60 => ?_)
    · rw [if_pos c60] at hf
      refine es_l (pc' := 158) (ls' := [(0, .int x0), (1, .int x1), (2, .int x2)]) (st' := [.int 1]) (fun _ _ k => e_iconst (v := 1) dX2_joined_153 (by decide) (e_goto (tgt := 158) dX2_joined_154 rfl k)) ?_
      refine es_sub [] rfl ?_
      exact t_X2_joined_158 N 1 S r hf
    · rw [if_neg c60] at hf
      refine es_l (pc' := 158) (ls' := [(0, .int x0), (1, .int x1), (2, .int x2)]) (st' := [.int 0]) (fun _ _ k => e_iconst (v := 0) dX2_joined_157 (by decide) k) ?_
      refine es_sub [] rfl ?_
      exact t_X2_joined_158 N 0 S r hf
  rw [if_neg c59] at hf
  by_cases c61 : (x0 : Int32).toInt ∈ [(22 : Int)]
  · rw [if_pos c61] at hf
    refine es_l (pc' := 170) (ls' := [(0, .int x0), (1, .int x1), (2, .int x2)]) (st' := []) (fun _ _ k => e_tabC (off := 169) dX2_joined_1 c61 (by decide) rfl k) ?_
    refine es_l (pc' := 172) (ls' := [(0, .int x0), (1, .int x1), (2, .int x2)]) (st' := [.int x2, .int x1]) (fun _ _ k => e_iload_n dX2_joined_170 1 rfl (e_iload_n dX2_joined_171 2 rfl k)) ?_
    refine es_br (c := x2 ≤ x1) (tgt := 179) (pf := 175) (st' := []) (fun _ _ a b => e_icmp_ge dX2_joined_172 rfl a b) (fun c62 => ?_) (fun c62 => ?_)
    · rw [if_pos c62] at hf
      refine es_l (pc' := 180) (ls' := [(0, .int x0), (1, .int x1), (2, .int x2)]) (st' := [.int 0]) (fun _ _ k => e_iconst (v := 0) dX2_joined_179 (by decide) k) ?_
      refine es_sub [] rfl ?_
      exact t_X2_joined_180 N 0 S r hf
    · rw [if_neg c62] at hf
      refine es_l (pc' := 180) (ls' := [(0, .int x0), (1, .int x1), (2, .int x2)]) (st' := [.int 1]) (fun _ _ k => e_iconst (v := 1) dX2_joined_175 (by decide) (e_goto (tgt := 180) dX2_joined_176 rfl k)) ?_
      refine es_sub [] rfl ?_
      exact t_X2_joined_180 N 1 S r hf
  rw [if_neg c61] at hf
  by_cases c63 : (x0 : Int32).toInt ∈ [(23 : Int)]
  · rw [if_pos c63] at hf
    refine es_l (pc' := 192) (ls' := [(0, .int x0), (1, .int x1), (2, .int x2)]) (st' := []) (fun _ _ k => e_tabC (off := 191) dX2_joined_1 c63 (by decide) rfl k) ?_
    refine es_l (pc' := 194) (ls' := [(0, .int x0), (1, .int x1), (2, .int x2)]) (st' := [.int x2, .int x1]) (fun _ _ k => e_iload_n dX2_joined_192 1 rfl (e_iload_n dX2_joined_193 2 rfl k)) ?_
    refine es_br (c := x1 ≤ x2) (tgt := 201) (pf := 197) (st' := []) (fun _ _ a b => e_icmp_le dX2_joined_194 rfl a b) (fun c64 => ?_) (fun c64 => ?_)
    · rw [if_pos c64] at hf
      refine es_l (pc' := 202) (ls' := [(0, .int x0), (1, .int x1), (2, .int x2)]) (st' := [.int 0]) (fun _ _ k => e_iconst (v := 0) dX2_joined_201 (by decide) k) ?_
      refine es_sub [] rfl ?_
      exact t_X2_joined_202 N 0 S r hf
    · rw [if_neg c64] at hf
      refine es_l (pc' := 202) (ls' := [(0, .int x0), (1, .int x1), (2, .int x2)]) (st' := [.int 1]) (fun _ _ k => e_iconst (v := 1) dX2_joined_197 (by decide) (e_goto (tgt := 202) dX2_joined_198 rfl k)) ?_
      refine es_sub [] rfl ?_
      exact t_X2_joined_202 N 1 S r hf
  rw [if_neg c63] at hf
  by_cases c65 : (x0 : Int32).toInt ∈ [(24 : Int)]
  · rw [if_pos c65] at hf
    refine es_l (pc' := 214) (ls' := [(0, .int x0), (1, .int x1), (2, .int x2)]) (st' := []) (fun _ _ k => e_tabC (off := 213) dX2_joined_1 c65 (by decide) rfl k) ?_
    refine es_l (pc' := 217) (ls' := [(0, .int x0), (1, .int x1), (2, .int x2)]) (st' := [.int (x1 + x2)]) (fun _ _ k => e_iload_n dX2_joined_214 1 rfl (e_iload_n dX2_joined_215 2 rfl (e_iadd dX2_joined_216 k))) ?_
    exact es_ireturn (ty := .int) dX2_joined_217 rfl rfl hf
  rw [if_neg c65] at hf
  by_cases c66 : (x0 : Int32).toInt ∈ [(25 : Int)]
  · rw [if_pos c66] at hf
    refine es_l (pc' := 218) (ls' := [(0, .int x0), (1, .int x1), (2, .int x2)]) (st' := []) (fun _ _ k => e_tabC (off := 217) dX2_joined_1 c66 (by decide) rfl k) ?_
    refine es_l (pc' := 221) (ls' := [(0, .int x0), (1, .int x1), (2, .int x2)]) (st' := [.int (x1 - x2)]) (fun _ _ k => e_iload_n dX2_joined_218 1 rfl (e_iload_n dX2_joined_219 2 rfl (e_isub dX2_joined_220 k))) ?_
    exact es_ireturn (ty := .int) dX2_joined_221 rfl rfl hf
  rw [if_neg c66] at hf
  by_cases c67 : (x0 : Int32).toInt ∈ [(26 : Int)]
  · rw [if_pos c67] at hf
    refine es_l (pc' := 222) (ls' := [(0, .int x0), (1, .int x1), (2, .int x2)]) (st' := []) (fun _ _ k => e_tabC (off := 221) dX2_joined_1 c67 (by decide) rfl k) ?_
    refine es_l (pc' := 225) (ls' := [(0, .int x0), (1, .int x1), (2, .int x2)]) (st' := [.int (x1 * x2)]) (fun _ _ k => e_iload_n dX2_joined_222 1 rfl (e_iload_n dX2_joined_223 2 rfl (e_imul dX2_joined_224 k))) ?_
    exact es_ireturn (ty := .int) dX2_joined_225 rfl rfl hf
  rw [if_neg c67] at hf
  by_cases c68 : (x0 : Int32).toInt ∈ [(27 : Int)]
  · rw [if_pos c68] at hf
    refine es_l (pc' := 226) (ls' := [(0, .int x0), (1, .int x1), (2, .int x2)]) (st' := []) (fun _ _ k => e_tabC (off := 225) dX2_joined_1 c68 (by decide) rfl k) ?_
    refine es_l (pc' := 227) (ls' := [(0, .int x0), (1, .int x1), (2, .int x2)]) (st' := [.int x2]) (fun _ _ k => e_iload_n dX2_joined_226 2 rfl k) ?_
    refine es_br (c := x2 = 0) (tgt := 230) (pf := 234) (st' := []) (fun _ _ a b => e_if_ne dX2_joined_227 rfl b a) (fun c69 => ?_) (fun c69 => ?_)
    · rw [if_pos c69] at hf
      refine es_l (pc' := 237) (ls' := [(0, .int x0), (1, .int x1), (2, .int x2)]) (st' := [.int 0]) (fun _ _ k => e_iconst (v := 0) dX2_joined_230 (by decide) (e_goto (tgt := 237) dX2_joined_231 rfl k)) ?_
      refine es_sub [] rfl ?_
      exact t_X2_joined_237 N 0 S r hf
    · rw [if_neg c69] at hf
      refine es_l (pc' := 236) (ls' := [(0, .int x0), (1, .int x1), (2, .int x2)]) (st' := [.int x2, .int x1]) (fun _ _ k => e_iload_n dX2_joined_234 1 rfl (e_iload_n dX2_joined_235 2 rfl k)) ?_
      obtain ⟨g70, hf⟩ := xg hf
      refine es_l (pc' := 237) (ls' := [(0, .int x0), (1, .int x1), (2, .int x2)]) (st' := [.int (x1 / x2)]) (fun _ _ k => e_idiv dX2_joined_236 g70 k) ?_
      refine es_sub [] rfl ?_
      exact t_X2_joined_237 N (x1 / x2) S r hf
  rw [if_neg c68] at hf
  by_cases c71 : (x0 : Int32).toInt ∈ [(37 : Int)]
  · rw [if_pos c71] at hf
    refine es_l (pc' := 159) (ls' := [(0, .int x0), (1, .int x1), (2, .int x2)]) (st' := []) (fun _ _ k => e_tabC (off := 158) dX2_joined_1 c71 (by decide) rfl k) ?_
    refine es_l (pc' := 161) (ls' := [(0, .int x0), (1, .int x1), (2, .int x2)]) (st' := [.int x2, .int x1]) (fun _ _ k => e_iload_n dX2_joined_159 1 rfl (e_iload_n dX2_joined_160 2 rfl k)) ?_
    refine es_br (c := x1 = x2) (tgt := 168) (pf := 164) (st' := []) (fun _ _ a b => e_icmp_eq dX2_joined_161 rfl a b) (fun c72 => ?_) (fun c72 => ?_)
    · rw [if_pos c72] at hf
      refine es_l (pc' := 169) (ls' := [(0, .int x0), (1, .int x1), (2, .int x2)]) (st' := [.int 0]) (fun _ _ k => e_iconst (v := 0) dX2_joined_168 (by decide) k) ?_
      refine es_sub [] rfl ?_
      exact t_X2_joined_169 N 0 S r hf
    · rw [if_neg c72] at hf
      refine es_l (pc' := 169) (ls' := [(0, .int x0), (1, .int x1), (2, .int x2)]) (st' := [.int 1]) (fun _ _ k => e_iconst (v := 1) dX2_joined_164 (by decide) (e_goto (tgt := 169) dX2_joined_165 rfl k)) ?_
      refine es_sub [] rfl ?_
      exact t_X2_joined_169 N 1 S r hf
  rw [if_neg c71] at hf
  by_cases c73 : (x0 : Int32).toInt ∈ [(38 : Int)]
  · rw [if_pos c73] at hf
    refine es_l (pc' := 181) (ls' := [(0, .int x0), (1, .int x1), (2, .int x2)]) (st' := []) (fun _ _ k => e_tabC (off := 180) dX2_joined_1 c73 (by decide) rfl k) ?_
    refine es_l (pc' := 183) (ls' := [(0, .int x0), (1, .int x1), (2, .int x2)]) (st' := [.int x2, .int x1]) (fun _ _ k => e_iload_n dX2_joined_181 1 rfl (e_iload_n dX2_joined_182 2 rfl k)) ?_
    refine es_br (c := x2 < x1) (tgt := 190) (pf := 186) (st' := []) (fun _ _ a b => e_icmp_gt dX2_joined_183 rfl a b) (fun c74 => ?_) (fun c74 => ?_)
    · rw [if_pos c74] at hf
      refine es_l (pc' := 191) (ls' := [(0, .int x0), (1, .int x1), (2, .int x2)]) (st' := [.int 0]) (fun _ _ k => e_iconst (v := 0) dX2_joined_190 (by decide) k) ?_
      refine es_sub [] rfl ?_
      exact t_X2_joined_191 N 0 S r hf
    · rw [if_neg c74] at hf
      refine es_l (pc' := 191) (ls' := [(0, .int x0), (1, .int x1), (2, .int x2)]) (st' := [.int 1]) (fun _ _ k => e_iconst (v := 1) dX2_joined_186 (by decide) (e_goto (tgt := 191) dX2_joined_187 rfl k)) ?_
      refine es_sub [] rfl ?_
      exact t_X2_joined_191 N 1 S r hf
  rw [if_neg c73] at hf
  by_cases c75 : (x0 : Int32).toInt ∈ [(39 : Int)]
  · rw [if_pos c75] at hf
    refine es_l (pc' := 203) (ls' := [(0, .int x0), (1, .int x1), (2, .int x2)]) (st' := []) (fun _ _ k => e_tabC (off := 202) dX2_joined_1 c75 (by decide) rfl k) ?_
    refine es_l (pc' := 205) (ls' := [(0, .int x0), (1, .int x1), (2, .int x2)]) (st' := [.int x2, .int x1]) (fun _ _ k => e_iload_n dX2_joined_203 1 rfl (e_iload_n dX2_joined_204 2 rfl k)) ?_
    refine es_br (c := x1 < x2) (tgt := 212) (pf := 208) (st' := []) (fun _ _ a b => e_icmp_lt dX2_joined_205 rfl a b) (fun c76 => ?_) (fun c76 => ?_)
    · rw [if_pos c76] at hf
      refine es_l (pc' := 213) (ls' := [(0, .int x0), (1, .int x1), (2, .int x2)]) (st' := [.int 0]) (fun _ _ k => e_iconst (v := 0) dX2_joined_212 (by decide) k) ?_
      refine es_sub [] rfl ?_
      exact t_X2_joined_213 N 0 S r hf
    · rw [if_neg c76] at hf
      refine es_l (pc' := 213) (ls' := [(0, .int x0), (1, .int x1), (2, .int x2)]) (st' := [.int 1]) (fun _ _ k => e_iconst (v := 1) dX2_joined_208 (by decide) (e_goto (tgt := 213) dX2_joined_209 rfl k)) ?_
      refine es_sub [] rfl ?_
      exact t_X2_joined_213 N 1 S r hf
  rw [if_neg c75] at hf
  refine es_l (pc' := 238) (ls' := [(0, .int x0), (1, .int x1), (2, .int x2)]) (st' := []) (fun _ _ k => e_tabD (L := [14, 15, 21, 22, 23, 24, 25, 26, 27, 37, 38, 39]) dX2_joined_1 (by  simp only [List.mem_cons, List.not_mem_nil, or_false] at *; omega) (by decide) rfl k) ?_
  refine es_l (pc' := 239) (ls' := [(0, .int x0), (1, .int x1), (2, .int x2)]) (st' := [.int x2]) (fun _ _ k => e_iload_n dX2_joined_238 2 rfl k) ?_
  refine es_br (c := x2 = 0) (tgt := 242) (pf := 246) (st' := []) (fun _ _ a b => e_if_ne dX2_joined_239 rfl b a) (fun c77 => ?_) (fun c77 => ?_)
  · rw [if_pos c77] at hf
    refine es_l (pc' := 249) (ls' := [(0, .int x0), (1, .int x1), (2, .int x2)]) (st' := [.int 0]) (fun _ _ k => e_iconst (v := 0) dX2_joined_242 (by decide) (e_goto (tgt := 249) dX2_joined_243 rfl k)) ?_
    refine es_sub [] rfl ?_
    exact t_X2_joined_249 N 0 S r hf
  · rw [if_neg c77] at hf
    refine es_l (pc' := 248) (ls' := [(0, .int x0), (1, .int x1), (2, .int x2)]) (st' := [.int x2, .int x1]) (fun _ _ k => e_iload_n dX2_joined_246 1 rfl (e_iload_n dX2_joined_247 2 rfl k)) ?_
    obtain ⟨g78, hf⟩ := xg hf
    refine es_l (pc' := 249) (ls' := [(0, .int x0), (1, .int x1), (2, .int x2)]) (st' := [.int (x1 - x1 / x2 * x2)]) (fun _ _ k => e_irem dX2_joined_248 g78 k) ?_
    refine es_sub [] rfl ?_
    exact t_X2_joined_249 N (x1 - x1 / x2 * x2) S r hf
def f_X2_within_417 (N : Nat)   (S : xS) : Option xr :=
  if xin 0 151 then
  some (.inl (some (.inl (S.1 412 ((0 : Int32).toNatClampNeg)))), S)
  else none
set_option maxRecDepth 100000 in
set_option maxHeartbeats 4000000 in
theorem t_X2_within_417 {l : Launch} {w : xW} {g : Nat → xE} (N : Nat)    (S : xS) (r : xr) (hf : f_X2_within_417 N   S = some r) : ES l w g M_X2_within 417 [(0, .ref (w.2.1 + 409))] [] S r := by
  unfold f_X2_within_417 at hf
  refine es_l (pc' := 418) (ls' := [(0, .ref (w.2.1 + 409))]) (st' := [.ref (w.2.1 + 409)]) (fun _ _ k => e_aload_n dX2_within_417 0 rfl k) ?_
  refine es_get (v := .ref (w.2.1 + 412)) xc_2 dX2_within_418 fl_X2_18 (by decide) (by decide) (cel_409 _ _ _) rfl ?_
  refine es_l (pc' := 422) (ls' := [(0, .ref (w.2.1 + 409))]) (st' := [.int 0, .ref (w.2.1 + 412)]) (fun _ _ k => e_iconst (v := 0) dX2_within_421 (by decide) k) ?_
  obtain ⟨g69, hf⟩ := xg hf
  refine es_iald (v := .int (S.1 412 ((0 : Int32).toNatClampNeg))) dX2_within_422 (by decide) (cel_412 _ _ _) g69 rfl ?_
  exact es_ireturn (ty := .int) dX2_within_423 rfl rfl hf
def f_X2_within_411 (N : Nat) (k5 : Int32 → Int32 → Int32 → xS → Option xr) (x2 : Int32) (x3 : Int32) (x4 : Int32) (S : xS) : Option xr :=
  k5 x2 x3 (x4 + 1) S
set_option maxRecDepth 100000 in
set_option maxHeartbeats 4000000 in
theorem t_X2_within_411 {l : Launch} {w : xW} {g : Nat → xE} (N : Nat) (k5 : Int32 → Int32 → Int32 → xS → Option xr) (hk5 : ∀ (x2 : Int32) (x3 : Int32) (x4 : Int32) (S : xS) (r : xr), k5 x2 x3 x4 S = some r → ES l w g M_X2_within 5 [(0, .ref (w.2.1 + 409)), (2, .int x2), (3, .int x3), (4, .int x4)] [] S r) (x2 : Int32) (x3 : Int32) (x4 : Int32) (S : xS) (r : xr) (hf : f_X2_within_411 N k5 x2 x3 x4 S = some r) : ES l w g M_X2_within 411 [(0, .ref (w.2.1 + 409)), (2, .int x2), (3, .int x3), (4, .int x4)] [] S r := by
  unfold f_X2_within_411 at hf
  refine es_l (pc' := 5) (ls' := [(4, .int (x4 + 1)), (0, .ref (w.2.1 + 409)), (2, .int x2), (3, .int x3)]) (st' := []) (fun _ _ k => e_iinc (v := x4 + 1) (ls' := [(4, .int (x4 + 1)), (0, .ref (w.2.1 + 409)), (2, .int x2), (3, .int x3)]) dX2_within_411 3 rfl rfl (by decide) rfl (e_goto (tgt := 5) dX2_within_414 rfl k)) ?_
  refine es_sub [1, 2, 3, 0] rfl ?_
  exact hk5 x2 x3 (x4 + 1) S r hf
def f_X2_within_360 (N : Nat) (k5 : Int32 → Int32 → Int32 → xS → Option xr) (x2 : Int32) (x3 : Int32) (x4 : Int32) (s0 : Int32) (s1 : Int32) (S : xS) : Option xr :=
  if xin s1 151 then
  f_X2_within_411 N k5 x2 x3 x4 (sI S 412 s1.toNatClampNeg s0)
  else none
set_option maxRecDepth 100000 in
set_option maxHeartbeats 4000000 in
theorem t_X2_within_360 {l : Launch} {w : xW} {g : Nat → xE} (N : Nat) (k5 : Int32 → Int32 → Int32 → xS → Option xr) (hk5 : ∀ (x2 : Int32) (x3 : Int32) (x4 : Int32) (S : xS) (r : xr), k5 x2 x3 x4 S = some r → ES l w g M_X2_within 5 [(0, .ref (w.2.1 + 409)), (2, .int x2), (3, .int x3), (4, .int x4)] [] S r) (x2 : Int32) (x3 : Int32) (x4 : Int32) (s0 : Int32) (s1 : Int32) (S : xS) (r : xr) (hf : f_X2_within_360 N k5 x2 x3 x4 s0 s1 S = some r) : ES l w g M_X2_within 360 [(0, .ref (w.2.1 + 409)), (2, .int x2), (3, .int x3), (4, .int x4)] [.int s0, .int s1, .ref (w.2.1 + 412)] S r := by
  unfold f_X2_within_360 at hf
  obtain ⟨g70, hf⟩ := xg hf
  refine es_iast dX2_within_360 (by decide) (cel_412 _) g70 ?_
  refine es_l (pc' := 411) (ls' := [(0, .ref (w.2.1 + 409)), (2, .int x2), (3, .int x3), (4, .int x4)]) (st' := []) (fun _ _ k => e_goto (tgt := 411) dX2_within_361 rfl k) ?_
  exact t_X2_within_411 N k5 hk5 x2 x3 x4 (sI S 412 s1.toNatClampNeg s0) r hf
def f_X2_within_306 (N : Nat) (k5 : Int32 → Int32 → Int32 → xS → Option xr) (x2 : Int32) (x3 : Int32) (x4 : Int32) (s0 : Int32) (s1 : Int32) (S : xS) : Option xr :=
  if xin s1 151 then
  f_X2_within_411 N k5 x2 x3 x4 (sI S 412 s1.toNatClampNeg s0)
  else none
set_option maxRecDepth 100000 in
set_option maxHeartbeats 4000000 in
theorem t_X2_within_306 {l : Launch} {w : xW} {g : Nat → xE} (N : Nat) (k5 : Int32 → Int32 → Int32 → xS → Option xr) (hk5 : ∀ (x2 : Int32) (x3 : Int32) (x4 : Int32) (S : xS) (r : xr), k5 x2 x3 x4 S = some r → ES l w g M_X2_within 5 [(0, .ref (w.2.1 + 409)), (2, .int x2), (3, .int x3), (4, .int x4)] [] S r) (x2 : Int32) (x3 : Int32) (x4 : Int32) (s0 : Int32) (s1 : Int32) (S : xS) (r : xr) (hf : f_X2_within_306 N k5 x2 x3 x4 s0 s1 S = some r) : ES l w g M_X2_within 306 [(0, .ref (w.2.1 + 409)), (2, .int x2), (3, .int x3), (4, .int x4)] [.int s0, .int s1, .ref (w.2.1 + 412)] S r := by
  unfold f_X2_within_306 at hf
  obtain ⟨g71, hf⟩ := xg hf
  refine es_iast dX2_within_306 (by decide) (cel_412 _) g71 ?_
  refine es_l (pc' := 411) (ls' := [(0, .ref (w.2.1 + 409)), (2, .int x2), (3, .int x3), (4, .int x4)]) (st' := []) (fun _ _ k => e_goto (tgt := 411) dX2_within_307 rfl k) ?_
  exact t_X2_within_411 N k5 hk5 x2 x3 x4 (sI S 412 s1.toNatClampNeg s0) r hf
def f_X2_within_5 (N : Nat)  : Nat → Int32 → Int32 → Int32 → xS → Option xr
  | 0, _, _, _, _ => none
  | n + 1, x2, x3, x4, S =>
  if (S.1 97 5) ≤ x4 then
    f_X2_within_417 N S
  else
    if xin x4 151 then
    if (S.1 (103 + 2 * x4.toNatClampNeg) 0) = 0 then
      f_X2_within_417 N S
    else
      if (S.1 (103 + 2 * x4.toNatClampNeg) 0 : Int32).toInt ∈ [(16 : Int)] then
        if xin x3 151 then
        if (S.1 412 x3.toNatClampNeg) = 0 then
          f_X2_within_360 N (f_X2_within_5 N n) x2 x3 x4 1 x3 S
        else
          f_X2_within_360 N (f_X2_within_5 N n) x2 x3 x4 0 x3 S
        else none
      else
      if (S.1 (103 + 2 * x4.toNatClampNeg) 0 : Int32).toInt ∈ [(17 : Int), (18 : Int), (19 : Int), (20 : Int)] then
        if xin (x3 + 1) 151 then
        xcI (f_J9_max_7cf53 N x4 (((sI S 412 ((x3 + 1).toNatClampNeg) (S.1 (103 + 2 * x4.toNatClampNeg) 1)).1 (103 + 2 * x4.toNatClampNeg) 6) - 1) (sI S 412 ((x3 + 1).toNatClampNeg) (S.1 (103 + 2 * x4.toNatClampNeg) 1))) (fun v81 S80 =>
        f_X2_within_411 N (f_X2_within_5 N n) x2 (x3 + 1) v81 S80
        )
        else none
      else
      if (S.1 (103 + 2 * x4.toNatClampNeg) 0 : Int32).toInt ∈ [(41 : Int)] then
        if xin (x3 + 1) 151 then
        f_X2_within_411 N (f_X2_within_5 N n) x2 (x3 + 1) x4 (sI S 412 ((x3 + 1).toNatClampNeg) (S.1 (103 + 2 * x4.toNatClampNeg) 1))
        else none
      else
      if (S.1 (103 + 2 * x4.toNatClampNeg) 0 : Int32).toInt ∈ [(44 : Int)] then
        if xin x3 151 then
        f_X2_within_411 N (f_X2_within_5 N n) x2 x3 x4 (sI S 412 x3.toNatClampNeg (-(S.1 412 x3.toNatClampNeg)))
        else none
      else
      if (S.1 (103 + 2 * x4.toNatClampNeg) 0 : Int32).toInt ∈ [(45 : Int)] then
        if xin (S.1 (103 + 2 * x4.toNatClampNeg) 1) 20 then
        if xin (x3 + 1) 151 then
        f_X2_within_411 N (f_X2_within_5 N n) x2 (x3 + 1) x4 (sI S 412 ((x3 + 1).toNatClampNeg) (S.1 410 ((S.1 (103 + 2 * x4.toNatClampNeg) 1).toNatClampNeg)))
        else none
        else none
      else
      if (S.1 (103 + 2 * x4.toNatClampNeg) 0 : Int32).toInt ∈ [(46 : Int)] then
        if xin x2 64 then
        if xin (S.1 (103 + 2 * x4.toNatClampNeg) 3) 6 then
        if xin (x3 + 1) 151 then
        f_X2_within_411 N (f_X2_within_5 N n) x2 (x3 + 1) x4 (sI S 412 ((x3 + 1).toNatClampNeg) (S.1 (32 + x2.toNatClampNeg) ((S.1 (103 + 2 * x4.toNatClampNeg) 3).toNatClampNeg)))
        else none
        else none
        else none
      else
      if (S.1 (103 + 2 * x4.toNatClampNeg) 0 : Int32).toInt ∈ [(47 : Int)] then
        xcI (f_X0_at N (S.1 (103 + 2 * x4.toNatClampNeg) 4) S) (fun v95 S94 =>
        if v95 = ((-1)) then
          f_X2_within_306 N (f_X2_within_5 N n) x2 (x3 + 1) x4 0 (x3 + 1) S94
        else
          if xin v95 64 then
          if xin (S94.1 (103 + 2 * x4.toNatClampNeg) 3) 6 then
          f_X2_within_306 N (f_X2_within_5 N n) x2 (x3 + 1) x4 (S94.1 (32 + v95.toNatClampNeg) ((S94.1 (103 + 2 * x4.toNatClampNeg) 3).toNatClampNeg)) (x3 + 1) S94
          else none
          else none
        )
      else
      if xin (x3 + (-1)) 151 then
      if xin ((x3 + (-1)) + 1) 151 then
      xcI (f_X2_joined N (S.1 (103 + 2 * x4.toNatClampNeg) 0) (S.1 412 ((x3 + (-1)).toNatClampNeg)) (S.1 412 (((x3 + (-1)) + 1).toNatClampNeg)) S) (fun v102 S101 =>
      f_X2_within_411 N (f_X2_within_5 N n) x2 (x3 + (-1)) x4 (sI S101 412 ((x3 + (-1)).toNatClampNeg) v102)
      )
      else none
      else none
    else none
set_option maxRecDepth 100000 in
set_option maxHeartbeats 4000000 in
theorem t_X2_within_5 {l : Launch} {w : xW} {g : Nat → xE} (N : Nat)   : ∀ (n : Nat) (x2 : Int32) (x3 : Int32) (x4 : Int32) (S : xS) (r : xr), f_X2_within_5 N  n x2 x3 x4 S = some r → ES l w g M_X2_within 5 [(0, .ref (w.2.1 + 409)), (2, .int x2), (3, .int x3), (4, .int x4)] [] S r := by
  intro n
  induction n with
  | zero => intro x2 x3 x4 S r hf; cases hf
  | succ n ih =>
    intro x2 x3 x4 S r hf
    rw [f_X2_within_5.eq_2] at hf
    refine es_l (pc' := 8) (ls' := [(0, .ref (w.2.1 + 409)), (2, .int x2), (3, .int x3), (4, .int x4)]) (st' := [.ref (w.2.1 + 409), .int x4]) (fun _ _ k => e_iload dX2_within_5 3 rfl (e_aload_n dX2_within_7 0 rfl k)) ?_
    refine es_get (v := .ref (w.2.1 + 97)) xc_2 dX2_within_8 fl_X2_26 (by decide) (by decide) (cel_409 _ _ _) rfl ?_
    refine es_get (v := .int (S.1 97 5)) xc_5 dX2_within_11 fl_X2_173 (by decide) (by decide) (cel_97 _ _ _) rfl ?_
    refine es_br (c := (S.1 97 5) ≤ x4) (tgt := 417) (pf := 17) (st' := []) (fun _ _ a b => e_icmp_ge dX2_within_14 rfl a b) (fun c72 => ?_) (fun c72 => ?_)
    · rw [if_pos c72] at hf
      refine es_sub [0] rfl ?_
      exact t_X2_within_417 N S r hf
    · rw [if_neg c72] at hf
      refine es_l (pc' := 18) (ls' := [(0, .ref (w.2.1 + 409)), (2, .int x2), (3, .int x3), (4, .int x4)]) (st' := [.ref (w.2.1 + 409)]) (fun _ _ k => e_aload_n dX2_within_17 0 rfl k) ?_
      refine es_get (v := .ref (w.2.1 + 97)) xc_2 dX2_within_18 fl_X2_26 (by decide) (by decide) (cel_409 _ _ _) rfl ?_
      refine es_get (v := .ref (w.2.1 + 99)) xc_5 dX2_within_21 fl_X2_176 (by decide) (by decide) (cel_97 _ _ _) rfl ?_
      refine es_l (pc' := 26) (ls' := [(0, .ref (w.2.1 + 409)), (2, .int x2), (3, .int x3), (4, .int x4)]) (st' := [.int x4, .ref (w.2.1 + 99)]) (fun _ _ k => e_iload dX2_within_24 3 rfl k) ?_
      obtain ⟨g73, hf⟩ := xg hf
      refine es_aald (v := .ref (w.2.1 + (103 + 2 * x4.toNatClampNeg))) rfl dX2_within_26 (by decide) (cel_99 _ _ _) g73 rfl ?_
      refine es_get (v := .int (S.1 (103 + 2 * x4.toNatClampNeg) 0)) xc_4 dX2_within_27 fl_X2_180 (by decide) (xPart_lt (xPart_at g73)) (cel_pa (xPart_at g73) _ _ _) rfl ?_
      refine es_br (c := (S.1 (103 + 2 * x4.toNatClampNeg) 0) = 0) (tgt := 417) (pf := 33) (st' := []) (fun _ _ a b => e_if_eq dX2_within_30 rfl a b) (fun c74 => ?_) (fun c74 => ?_)
      · rw [if_pos c74] at hf
        refine es_sub [0] rfl ?_
        exact t_X2_within_417 N S r hf
      · rw [if_neg c74] at hf
        refine es_l (pc' := 34) (ls' := [(0, .ref (w.2.1 + 409)), (2, .int x2), (3, .int x3), (4, .int x4)]) (st' := [.ref (w.2.1 + 409)]) (fun _ _ k => e_aload_n dX2_within_33 0 rfl k) ?_
        refine es_get (v := .ref (w.2.1 + 97)) xc_2 dX2_within_34 fl_X2_26 (by decide) (by decide) (cel_409 _ _ _) rfl ?_
        refine es_get (v := .ref (w.2.1 + 99)) xc_5 dX2_within_37 fl_X2_176 (by decide) (by decide) (cel_97 _ _ _) rfl ?_
        refine es_l (pc' := 42) (ls' := [(0, .ref (w.2.1 + 409)), (2, .int x2), (3, .int x3), (4, .int x4)]) (st' := [.int x4, .ref (w.2.1 + 99)]) (fun _ _ k => e_iload dX2_within_40 3 rfl k) ?_
        refine es_aald (v := .ref (w.2.1 + (103 + 2 * x4.toNatClampNeg))) rfl dX2_within_42 (by decide) (cel_99 _ _ _) g73 rfl ?_
        refine es_l (pc' := 47) (ls' := [(5, .ref (w.2.1 + (103 + 2 * x4.toNatClampNeg))), (0, .ref (w.2.1 + 409)), (2, .int x2), (3, .int x3), (4, .int x4)]) (st' := [.ref (w.2.1 + (103 + 2 * x4.toNatClampNeg))]) (fun _ _ k => e_astore (ls' := [(5, .ref (w.2.1 + (103 + 2 * x4.toNatClampNeg))), (0, .ref (w.2.1 + 409)), (2, .int x2), (3, .int x3), (4, .int x4)]) dX2_within_43 (by decide) rfl (e_aload dX2_within_45 0 rfl k)) ?_
        refine es_get (v := .int (S.1 (103 + 2 * x4.toNatClampNeg) 0)) xc_4 dX2_within_47 fl_X2_180 (by decide) (xPart_lt (xPart_at g73)) (cel_pa (xPart_at g73) _ _ _) rfl ?_
        by_cases c75 : (S.1 (103 + 2 * x4.toNatClampNeg) 0 : Int32).toInt ∈ [(16 : Int)]
        · rw [if_pos c75] at hf
          refine es_l (pc' := 341) (ls' := [(5, .ref (w.2.1 + (103 + 2 * x4.toNatClampNeg))), (0, .ref (w.2.1 + 409)), (2, .int x2), (3, .int x3), (4, .int x4)]) (st' := []) (fun _ _ k => e_tabC (off := 291) dX2_within_50 c75 (by decide) rfl k) ?_
          refine es_l (pc' := 342) (ls' := [(5, .ref (w.2.1 + (103 + 2 * x4.toNatClampNeg))), (0, .ref (w.2.1 + 409)), (2, .int x2), (3, .int x3), (4, .int x4)]) (st' := [.ref (w.2.1 + 409)]) (fun _ _ k => e_aload_n dX2_within_341 1 rfl k) ?_
          refine es_get (v := .ref (w.2.1 + 412)) xc_2 dX2_within_342 fl_X2_18 (by decide) (by decide) (cel_409 _ _ _) rfl ?_
          refine es_l (pc' := 347) (ls' := [(5, .ref (w.2.1 + (103 + 2 * x4.toNatClampNeg))), (0, .ref (w.2.1 + 409)), (2, .int x2), (3, .int x3), (4, .int x4)]) (st' := [.ref (w.2.1 + 409), .int x3, .ref (w.2.1 + 412)]) (fun _ _ k => e_iload_n dX2_within_345 3 rfl (e_aload_n dX2_within_346 1 rfl k)) ?_
          refine es_get (v := .ref (w.2.1 + 412)) xc_2 dX2_within_347 fl_X2_18 (by decide) (by decide) (cel_409 _ _ _) rfl ?_
          refine es_l (pc' := 351) (ls' := [(5, .ref (w.2.1 + (103 + 2 * x4.toNatClampNeg))), (0, .ref (w.2.1 + 409)), (2, .int x2), (3, .int x3), (4, .int x4)]) (st' := [.int x3, .ref (w.2.1 + 412), .int x3, .ref (w.2.1 + 412)]) (fun _ _ k => e_iload_n dX2_within_350 3 rfl k) ?_
          obtain ⟨g76, hf⟩ := xg hf
          refine es_iald (v := .int (S.1 412 x3.toNatClampNeg)) dX2_within_351 (by decide) (cel_412 _ _ _) g76 rfl ?_
          refine es_br (c := (S.1 412 x3.toNatClampNeg) = 0) (tgt := 355) (pf := 359) (st' := [.int x3, .ref (w.2.1 + 412)]) (fun _ _ a b => e_if_ne dX2_within_352 rfl b a) (fun c77 => ?_) (fun c77 => ?_)
          · rw [if_pos c77] at hf
            refine es_l (pc' := 360) (ls' := [(5, .ref (w.2.1 + (103 + 2 * x4.toNatClampNeg))), (0, .ref (w.2.1 + 409)), (2, .int x2), (3, .int x3), (4, .int x4)]) (st' := [.int 1, .int x3, .ref (w.2.1 + 412)]) (fun _ _ k => e_iconst (v := 1) dX2_within_355 (by decide) (e_goto (tgt := 360) dX2_within_356 rfl k)) ?_
            refine es_sub [1, 2, 3, 4] rfl ?_
            exact t_X2_within_360 N (f_X2_within_5 N n) ih x2 x3 x4 1 x3 S r hf
          · rw [if_neg c77] at hf
            refine es_l (pc' := 360) (ls' := [(5, .ref (w.2.1 + (103 + 2 * x4.toNatClampNeg))), (0, .ref (w.2.1 + 409)), (2, .int x2), (3, .int x3), (4, .int x4)]) (st' := [.int 0, .int x3, .ref (w.2.1 + 412)]) (fun _ _ k => e_iconst (v := 0) dX2_within_359 (by decide) k) ?_
            refine es_sub [1, 2, 3, 4] rfl ?_
            exact t_X2_within_360 N (f_X2_within_5 N n) ih x2 x3 x4 0 x3 S r hf
        rw [if_neg c75] at hf
        by_cases c78 : (S.1 (103 + 2 * x4.toNatClampNeg) 0 : Int32).toInt ∈ [(17 : Int), (18 : Int), (19 : Int), (20 : Int)]
        · rw [if_pos c78] at hf
          refine es_l (pc' := 310) (ls' := [(5, .ref (w.2.1 + (103 + 2 * x4.toNatClampNeg))), (0, .ref (w.2.1 + 409)), (2, .int x2), (3, .int x3), (4, .int x4)]) (st' := []) (fun _ _ k => e_tabC (off := 260) dX2_within_50 c78 (by decide) rfl k) ?_
          refine es_l (pc' := 311) (ls' := [(5, .ref (w.2.1 + (103 + 2 * x4.toNatClampNeg))), (0, .ref (w.2.1 + 409)), (2, .int x2), (3, .int x3), (4, .int x4)]) (st' := [.ref (w.2.1 + 409)]) (fun _ _ k => e_aload_n dX2_within_310 1 rfl k) ?_
          refine es_get (v := .ref (w.2.1 + 412)) xc_2 dX2_within_311 fl_X2_18 (by decide) (by decide) (cel_409 _ _ _) rfl ?_
          refine es_l (pc' := 320) (ls' := [(3, .int (x3 + 1)), (5, .ref (w.2.1 + (103 + 2 * x4.toNatClampNeg))), (0, .ref (w.2.1 + 409)), (2, .int x2), (4, .int x4)]) (st' := [.ref (w.2.1 + (103 + 2 * x4.toNatClampNeg)), .int (x3 + 1), .ref (w.2.1 + 412)]) (fun _ _ k => e_iinc (v := x3 + 1) (ls' := [(3, .int (x3 + 1)), (5, .ref (w.2.1 + (103 + 2 * x4.toNatClampNeg))), (0, .ref (w.2.1 + 409)), (2, .int x2), (4, .int x4)]) dX2_within_314 3 rfl rfl (by decide) rfl (e_iload_n dX2_within_317 0 rfl (e_aload dX2_within_318 1 rfl k))) ?_
          refine es_get (v := .int (S.1 (103 + 2 * x4.toNatClampNeg) 1)) xc_4 dX2_within_320 fl_X2_187 (by decide) (xPart_lt (xPart_at g73)) (cel_pa (xPart_at g73) _ _ _) rfl ?_
          obtain ⟨g79, hf⟩ := xg hf
          refine es_iast dX2_within_323 (by decide) (cel_412 _) g79 ?_
          refine es_l (pc' := 328) (ls' := [(3, .int (x3 + 1)), (5, .ref (w.2.1 + (103 + 2 * x4.toNatClampNeg))), (0, .ref (w.2.1 + 409)), (2, .int x2), (4, .int x4)]) (st' := [.ref (w.2.1 + (103 + 2 * x4.toNatClampNeg)), .int x4]) (fun _ _ k => e_iload dX2_within_324 4 rfl (e_aload dX2_within_326 1 rfl k)) ?_
          refine es_get (v := .int ((sI S 412 ((x3 + 1).toNatClampNeg) (S.1 (103 + 2 * x4.toNatClampNeg) 1)).1 (103 + 2 * x4.toNatClampNeg) 6)) xc_4 dX2_within_328 fl_X2_190 (by decide) (xPart_lt (xPart_at g73)) (cel_pa (xPart_at g73) _ _ _) rfl ?_
          refine es_l (pc' := 333) (ls' := [(3, .int (x3 + 1)), (5, .ref (w.2.1 + (103 + 2 * x4.toNatClampNeg))), (0, .ref (w.2.1 + 409)), (2, .int x2), (4, .int x4)]) (st' := [.int (((sI S 412 ((x3 + 1).toNatClampNeg) (S.1 (103 + 2 * x4.toNatClampNeg) 1)).1 (103 + 2 * x4.toNatClampNeg) 6) - 1), .int x4]) (fun _ _ k => e_iconst (v := 1) dX2_within_331 (by decide) (e_isub dX2_within_332 k)) ?_
          refine es_callSI (as := [.int x4, .int (((sI S 412 ((x3 + 1).toNatClampNeg) (S.1 (103 + 2 * x4.toNatClampNeg) 1)).1 (103 + 2 * x4.toNatClampNeg) 6) - 1)]) (rest := []) hf dX2_within_333 cs_X2_within_J9_max_7cf53 ml_X2_193 st_J9_max_7cf53 rfl rfl (Nat.le_of_ble_eq_true rfl) (Nat.le_of_ble_eq_true rfl) (fun _ e => t_J9_max_7cf53 N x4 (((sI S 412 ((x3 + 1).toNatClampNeg) (S.1 (103 + 2 * x4.toNatClampNeg) 1)).1 (103 + 2 * x4.toNatClampNeg) 6) - 1) (sI S 412 ((x3 + 1).toNatClampNeg) (S.1 (103 + 2 * x4.toNatClampNeg) 1)) _ e) (by decide) (fun v81 S80 hf => ?_)
          refine es_l (pc' := 411) (ls' := [(4, .int v81), (3, .int (x3 + 1)), (5, .ref (w.2.1 + (103 + 2 * x4.toNatClampNeg))), (0, .ref (w.2.1 + 409)), (2, .int x2)]) (st' := []) (fun _ _ k => e_istore (ls' := [(4, .int v81), (3, .int (x3 + 1)), (5, .ref (w.2.1 + (103 + 2 * x4.toNatClampNeg))), (0, .ref (w.2.1 + 409)), (2, .int x2)]) dX2_within_336 (by decide) rfl (e_goto (tgt := 411) dX2_within_338 rfl k)) ?_
          refine es_sub [3, 4, 1, 0] rfl ?_
          exact t_X2_within_411 N (f_X2_within_5 N n) ih x2 (x3 + 1) v81 S80 r hf
        rw [if_neg c78] at hf
        by_cases c82 : (S.1 (103 + 2 * x4.toNatClampNeg) 0 : Int32).toInt ∈ [(41 : Int)]
        · rw [if_pos c82] at hf
          refine es_l (pc' := 192) (ls' := [(5, .ref (w.2.1 + (103 + 2 * x4.toNatClampNeg))), (0, .ref (w.2.1 + 409)), (2, .int x2), (3, .int x3), (4, .int x4)]) (st' := []) (fun _ _ k => e_tabC (off := 142) dX2_within_50 c82 (by decide) rfl k) ?_
          refine es_l (pc' := 193) (ls' := [(5, .ref (w.2.1 + (103 + 2 * x4.toNatClampNeg))), (0, .ref (w.2.1 + 409)), (2, .int x2), (3, .int x3), (4, .int x4)]) (st' := [.ref (w.2.1 + 409)]) (fun _ _ k => e_aload_n dX2_within_192 1 rfl k) ?_
          refine es_get (v := .ref (w.2.1 + 412)) xc_2 dX2_within_193 fl_X2_18 (by decide) (by decide) (cel_409 _ _ _) rfl ?_
          refine es_l (pc' := 202) (ls' := [(3, .int (x3 + 1)), (5, .ref (w.2.1 + (103 + 2 * x4.toNatClampNeg))), (0, .ref (w.2.1 + 409)), (2, .int x2), (4, .int x4)]) (st' := [.ref (w.2.1 + (103 + 2 * x4.toNatClampNeg)), .int (x3 + 1), .ref (w.2.1 + 412)]) (fun _ _ k => e_iinc (v := x3 + 1) (ls' := [(3, .int (x3 + 1)), (5, .ref (w.2.1 + (103 + 2 * x4.toNatClampNeg))), (0, .ref (w.2.1 + 409)), (2, .int x2), (4, .int x4)]) dX2_within_196 3 rfl rfl (by decide) rfl (e_iload_n dX2_within_199 0 rfl (e_aload dX2_within_200 1 rfl k))) ?_
          refine es_get (v := .int (S.1 (103 + 2 * x4.toNatClampNeg) 1)) xc_4 dX2_within_202 fl_X2_187 (by decide) (xPart_lt (xPart_at g73)) (cel_pa (xPart_at g73) _ _ _) rfl ?_
          obtain ⟨g83, hf⟩ := xg hf
          refine es_iast dX2_within_205 (by decide) (cel_412 _) g83 ?_
          refine es_l (pc' := 411) (ls' := [(3, .int (x3 + 1)), (5, .ref (w.2.1 + (103 + 2 * x4.toNatClampNeg))), (0, .ref (w.2.1 + 409)), (2, .int x2), (4, .int x4)]) (st' := []) (fun _ _ k => e_goto (tgt := 411) dX2_within_206 rfl k) ?_
          refine es_sub [2, 3, 0, 4] rfl ?_
          exact t_X2_within_411 N (f_X2_within_5 N n) ih x2 (x3 + 1) x4 (sI S 412 ((x3 + 1).toNatClampNeg) (S.1 (103 + 2 * x4.toNatClampNeg) 1)) r hf
        rw [if_neg c82] at hf
        by_cases c84 : (S.1 (103 + 2 * x4.toNatClampNeg) 0 : Int32).toInt ∈ [(44 : Int)]
        · rw [if_pos c84] at hf
          refine es_l (pc' := 364) (ls' := [(5, .ref (w.2.1 + (103 + 2 * x4.toNatClampNeg))), (0, .ref (w.2.1 + 409)), (2, .int x2), (3, .int x3), (4, .int x4)]) (st' := []) (fun _ _ k => e_tabC (off := 314) dX2_within_50 c84 (by decide) rfl k) ?_
          refine es_l (pc' := 365) (ls' := [(5, .ref (w.2.1 + (103 + 2 * x4.toNatClampNeg))), (0, .ref (w.2.1 + 409)), (2, .int x2), (3, .int x3), (4, .int x4)]) (st' := [.ref (w.2.1 + 409)]) (fun _ _ k => e_aload_n dX2_within_364 1 rfl k) ?_
          refine es_get (v := .ref (w.2.1 + 412)) xc_2 dX2_within_365 fl_X2_18 (by decide) (by decide) (cel_409 _ _ _) rfl ?_
          refine es_l (pc' := 370) (ls' := [(5, .ref (w.2.1 + (103 + 2 * x4.toNatClampNeg))), (0, .ref (w.2.1 + 409)), (2, .int x2), (3, .int x3), (4, .int x4)]) (st' := [.ref (w.2.1 + 409), .int x3, .ref (w.2.1 + 412)]) (fun _ _ k => e_iload_n dX2_within_368 3 rfl (e_aload_n dX2_within_369 1 rfl k)) ?_
          refine es_get (v := .ref (w.2.1 + 412)) xc_2 dX2_within_370 fl_X2_18 (by decide) (by decide) (cel_409 _ _ _) rfl ?_
          refine es_l (pc' := 374) (ls' := [(5, .ref (w.2.1 + (103 + 2 * x4.toNatClampNeg))), (0, .ref (w.2.1 + 409)), (2, .int x2), (3, .int x3), (4, .int x4)]) (st' := [.int x3, .ref (w.2.1 + 412), .int x3, .ref (w.2.1 + 412)]) (fun _ _ k => e_iload_n dX2_within_373 3 rfl k) ?_
          obtain ⟨g85, hf⟩ := xg hf
          refine es_iald (v := .int (S.1 412 x3.toNatClampNeg)) dX2_within_374 (by decide) (cel_412 _ _ _) g85 rfl ?_
          refine es_l (pc' := 376) (ls' := [(5, .ref (w.2.1 + (103 + 2 * x4.toNatClampNeg))), (0, .ref (w.2.1 + 409)), (2, .int x2), (3, .int x3), (4, .int x4)]) (st' := [.int (-(S.1 412 x3.toNatClampNeg)), .int x3, .ref (w.2.1 + 412)]) (fun _ _ k => e_ineg dX2_within_375 k) ?_
          refine es_iast dX2_within_376 (by decide) (cel_412 _) g85 ?_
          refine es_l (pc' := 411) (ls' := [(5, .ref (w.2.1 + (103 + 2 * x4.toNatClampNeg))), (0, .ref (w.2.1 + 409)), (2, .int x2), (3, .int x3), (4, .int x4)]) (st' := []) (fun _ _ k => e_goto (tgt := 411) dX2_within_377 rfl k) ?_
          refine es_sub [1, 2, 3, 4] rfl ?_
          exact t_X2_within_411 N (f_X2_within_5 N n) ih x2 x3 x4 (sI S 412 x3.toNatClampNeg (-(S.1 412 x3.toNatClampNeg))) r hf
        rw [if_neg c84] at hf
        by_cases c86 : (S.1 (103 + 2 * x4.toNatClampNeg) 0 : Int32).toInt ∈ [(45 : Int)]
        · rw [if_pos c86] at hf
          refine es_l (pc' := 209) (ls' := [(5, .ref (w.2.1 + (103 + 2 * x4.toNatClampNeg))), (0, .ref (w.2.1 + 409)), (2, .int x2), (3, .int x3), (4, .int x4)]) (st' := []) (fun _ _ k => e_tabC (off := 159) dX2_within_50 c86 (by decide) rfl k) ?_
          refine es_l (pc' := 210) (ls' := [(5, .ref (w.2.1 + (103 + 2 * x4.toNatClampNeg))), (0, .ref (w.2.1 + 409)), (2, .int x2), (3, .int x3), (4, .int x4)]) (st' := [.ref (w.2.1 + 409)]) (fun _ _ k => e_aload_n dX2_within_209 1 rfl k) ?_
          refine es_get (v := .ref (w.2.1 + 412)) xc_2 dX2_within_210 fl_X2_18 (by decide) (by decide) (cel_409 _ _ _) rfl ?_
          refine es_l (pc' := 218) (ls' := [(3, .int (x3 + 1)), (5, .ref (w.2.1 + (103 + 2 * x4.toNatClampNeg))), (0, .ref (w.2.1 + 409)), (2, .int x2), (4, .int x4)]) (st' := [.ref (w.2.1 + 409), .int (x3 + 1), .ref (w.2.1 + 412)]) (fun _ _ k => e_iinc (v := x3 + 1) (ls' := [(3, .int (x3 + 1)), (5, .ref (w.2.1 + (103 + 2 * x4.toNatClampNeg))), (0, .ref (w.2.1 + 409)), (2, .int x2), (4, .int x4)]) dX2_within_213 3 rfl rfl (by decide) rfl (e_iload_n dX2_within_216 0 rfl (e_aload_n dX2_within_217 2 rfl k))) ?_
          refine es_get (v := .ref (w.2.1 + 410)) xc_2 dX2_within_218 fl_X2_9 (by decide) (by decide) (cel_409 _ _ _) rfl ?_
          refine es_l (pc' := 223) (ls' := [(3, .int (x3 + 1)), (5, .ref (w.2.1 + (103 + 2 * x4.toNatClampNeg))), (0, .ref (w.2.1 + 409)), (2, .int x2), (4, .int x4)]) (st' := [.ref (w.2.1 + (103 + 2 * x4.toNatClampNeg)), .ref (w.2.1 + 410), .int (x3 + 1), .ref (w.2.1 + 412)]) (fun _ _ k => e_aload dX2_within_221 1 rfl k) ?_
          refine es_get (v := .int (S.1 (103 + 2 * x4.toNatClampNeg) 1)) xc_4 dX2_within_223 fl_X2_187 (by decide) (xPart_lt (xPart_at g73)) (cel_pa (xPart_at g73) _ _ _) rfl ?_
          obtain ⟨g87, hf⟩ := xg hf
          refine es_iald (v := .int (S.1 410 ((S.1 (103 + 2 * x4.toNatClampNeg) 1).toNatClampNeg))) dX2_within_226 (by decide) (cel_410 _ _ _) g87 rfl ?_
          obtain ⟨g88, hf⟩ := xg hf
          refine es_iast dX2_within_227 (by decide) (cel_412 _) g88 ?_
          refine es_l (pc' := 411) (ls' := [(3, .int (x3 + 1)), (5, .ref (w.2.1 + (103 + 2 * x4.toNatClampNeg))), (0, .ref (w.2.1 + 409)), (2, .int x2), (4, .int x4)]) (st' := []) (fun _ _ k => e_goto (tgt := 411) dX2_within_228 rfl k) ?_
          refine es_sub [2, 3, 0, 4] rfl ?_
          exact t_X2_within_411 N (f_X2_within_5 N n) ih x2 (x3 + 1) x4 (sI S 412 ((x3 + 1).toNatClampNeg) (S.1 410 ((S.1 (103 + 2 * x4.toNatClampNeg) 1).toNatClampNeg))) r hf
        rw [if_neg c86] at hf
        by_cases c89 : (S.1 (103 + 2 * x4.toNatClampNeg) 0 : Int32).toInt ∈ [(46 : Int)]
        · rw [if_pos c89] at hf
          refine es_l (pc' := 231) (ls' := [(5, .ref (w.2.1 + (103 + 2 * x4.toNatClampNeg))), (0, .ref (w.2.1 + 409)), (2, .int x2), (3, .int x3), (4, .int x4)]) (st' := []) (fun _ _ k => e_tabC (off := 181) dX2_within_50 c89 (by decide) rfl k) ?_
          refine es_l (pc' := 232) (ls' := [(5, .ref (w.2.1 + (103 + 2 * x4.toNatClampNeg))), (0, .ref (w.2.1 + 409)), (2, .int x2), (3, .int x3), (4, .int x4)]) (st' := [.ref (w.2.1 + 409)]) (fun _ _ k => e_aload_n dX2_within_231 1 rfl k) ?_
          refine es_get (v := .ref (w.2.1 + 412)) xc_2 dX2_within_232 fl_X2_18 (by decide) (by decide) (cel_409 _ _ _) rfl ?_
          refine es_l (pc' := 240) (ls' := [(3, .int (x3 + 1)), (5, .ref (w.2.1 + (103 + 2 * x4.toNatClampNeg))), (0, .ref (w.2.1 + 409)), (2, .int x2), (4, .int x4)]) (st' := [.ref (w.2.1 + 409), .int (x3 + 1), .ref (w.2.1 + 412)]) (fun _ _ k => e_iinc (v := x3 + 1) (ls' := [(3, .int (x3 + 1)), (5, .ref (w.2.1 + (103 + 2 * x4.toNatClampNeg))), (0, .ref (w.2.1 + 409)), (2, .int x2), (4, .int x4)]) dX2_within_235 3 rfl rfl (by decide) rfl (e_iload_n dX2_within_238 0 rfl (e_aload_n dX2_within_239 2 rfl k))) ?_
          refine es_get (v := .ref (w.2.1 + 29)) xc_2 dX2_within_240 fl_X2_34 (by decide) (by decide) (cel_409 _ _ _) rfl ?_
          refine es_get (v := .ref (w.2.1 + 31)) xc_10 dX2_within_243 fl_X2_158 (by decide) (by decide) (cel_29 _ _ _) rfl ?_
          refine es_l (pc' := 247) (ls' := [(3, .int (x3 + 1)), (5, .ref (w.2.1 + (103 + 2 * x4.toNatClampNeg))), (0, .ref (w.2.1 + 409)), (2, .int x2), (4, .int x4)]) (st' := [.int x2, .ref (w.2.1 + 31), .int (x3 + 1), .ref (w.2.1 + 412)]) (fun _ _ k => e_iload_n dX2_within_246 3 rfl k) ?_
          obtain ⟨g90, hf⟩ := xg hf
          refine es_aald (v := .ref (w.2.1 + (32 + x2.toNatClampNeg))) rfl dX2_within_247 (by decide) (cel_31 _ _ _) g90 rfl ?_
          refine es_l (pc' := 250) (ls' := [(3, .int (x3 + 1)), (5, .ref (w.2.1 + (103 + 2 * x4.toNatClampNeg))), (0, .ref (w.2.1 + 409)), (2, .int x2), (4, .int x4)]) (st' := [.ref (w.2.1 + (103 + 2 * x4.toNatClampNeg)), .ref (w.2.1 + (32 + x2.toNatClampNeg)), .int (x3 + 1), .ref (w.2.1 + 412)]) (fun _ _ k => e_aload dX2_within_248 1 rfl k) ?_
          refine es_get (v := .int (S.1 (103 + 2 * x4.toNatClampNeg) 3)) xc_4 dX2_within_250 fl_X2_206 (by decide) (xPart_lt (xPart_at g73)) (cel_pa (xPart_at g73) _ _ _) rfl ?_
          obtain ⟨g91, hf⟩ := xg hf
          refine es_iald (v := .int (S.1 (32 + x2.toNatClampNeg) ((S.1 (103 + 2 * x4.toNatClampNeg) 3).toNatClampNeg))) dX2_within_253 (xReg32_lt (xReg32_at g90)) (cel_r32 (xReg32_at g90) _ _ _) g91 rfl ?_
          obtain ⟨g92, hf⟩ := xg hf
          refine es_iast dX2_within_254 (by decide) (cel_412 _) g92 ?_
          refine es_l (pc' := 411) (ls' := [(3, .int (x3 + 1)), (5, .ref (w.2.1 + (103 + 2 * x4.toNatClampNeg))), (0, .ref (w.2.1 + 409)), (2, .int x2), (4, .int x4)]) (st' := []) (fun _ _ k => e_goto (tgt := 411) dX2_within_255 rfl k) ?_
          refine es_sub [2, 3, 0, 4] rfl ?_
          exact t_X2_within_411 N (f_X2_within_5 N n) ih x2 (x3 + 1) x4 (sI S 412 ((x3 + 1).toNatClampNeg) (S.1 (32 + x2.toNatClampNeg) ((S.1 (103 + 2 * x4.toNatClampNeg) 3).toNatClampNeg))) r hf
        rw [if_neg c89] at hf
        by_cases c93 : (S.1 (103 + 2 * x4.toNatClampNeg) 0 : Int32).toInt ∈ [(47 : Int)]
        · rw [if_pos c93] at hf
          refine es_l (pc' := 258) (ls' := [(5, .ref (w.2.1 + (103 + 2 * x4.toNatClampNeg))), (0, .ref (w.2.1 + 409)), (2, .int x2), (3, .int x3), (4, .int x4)]) (st' := []) (fun _ _ k => e_tabC (off := 208) dX2_within_50 c93 (by decide) rfl k) ?_
          refine es_l (pc' := 259) (ls' := [(5, .ref (w.2.1 + (103 + 2 * x4.toNatClampNeg))), (0, .ref (w.2.1 + 409)), (2, .int x2), (3, .int x3), (4, .int x4)]) (st' := [.ref (w.2.1 + 409)]) (fun _ _ k => e_aload_n dX2_within_258 1 rfl k) ?_
          refine es_get (v := .ref (w.2.1 + 478)) xc_2 dX2_within_259 fl_X2_43 (by decide) (by decide) (cel_409 _ _ _) rfl ?_
          refine es_l (pc' := 264) (ls' := [(5, .ref (w.2.1 + (103 + 2 * x4.toNatClampNeg))), (0, .ref (w.2.1 + 409)), (2, .int x2), (3, .int x3), (4, .int x4)]) (st' := [.ref (w.2.1 + (103 + 2 * x4.toNatClampNeg)), .ref (w.2.1 + 478)]) (fun _ _ k => e_aload dX2_within_262 0 rfl k) ?_
          refine es_get (v := .int (S.1 (103 + 2 * x4.toNatClampNeg) 4)) xc_4 dX2_within_264 fl_X2_207 (by decide) (xPart_lt (xPart_at g73)) (cel_pa (xPart_at g73) _ _ _) rfl ?_
          refine es_callVI (as := [.int (S.1 (103 + 2 * x4.toNatClampNeg) 4)]) (rest := []) hf xc_0 dX2_within_267 cs_X2_within_X0_at ml_X2_166 im_X0_at se_X0_at rfl rfl (Nat.le_of_ble_eq_true rfl) (Nat.le_of_ble_eq_true rfl) (by decide) rfl (cel_478 _ _ _) (fun _ e => t_X0_at N (S.1 (103 + 2 * x4.toNatClampNeg) 4) S _ e) (by decide) (fun v95 S94 hf => ?_)
          refine es_l (pc' := 273) (ls' := [(6, .int v95), (5, .ref (w.2.1 + (103 + 2 * x4.toNatClampNeg))), (0, .ref (w.2.1 + 409)), (2, .int x2), (3, .int x3), (4, .int x4)]) (st' := [.ref (w.2.1 + 409)]) (fun _ _ k => e_istore (ls' := [(6, .int v95), (5, .ref (w.2.1 + (103 + 2 * x4.toNatClampNeg))), (0, .ref (w.2.1 + 409)), (2, .int x2), (3, .int x3), (4, .int x4)]) dX2_within_270 (by decide) rfl (e_aload_n dX2_within_272 2 rfl k)) ?_
          refine es_get (v := .ref (w.2.1 + 412)) xc_2 dX2_within_273 fl_X2_18 (by decide) (by decide) (cel_409 _ _ _) rfl ?_
          refine es_l (pc' := 283) (ls' := [(3, .int (x3 + 1)), (6, .int v95), (5, .ref (w.2.1 + (103 + 2 * x4.toNatClampNeg))), (0, .ref (w.2.1 + 409)), (2, .int x2), (4, .int x4)]) (st' := [.int ((-1)), .int v95, .int (x3 + 1), .ref (w.2.1 + 412)]) (fun _ _ k => e_iinc (v := x3 + 1) (ls' := [(3, .int (x3 + 1)), (6, .int v95), (5, .ref (w.2.1 + (103 + 2 * x4.toNatClampNeg))), (0, .ref (w.2.1 + 409)), (2, .int x2), (4, .int x4)]) dX2_within_276 4 rfl rfl (by decide) rfl (e_iload_n dX2_within_279 0 rfl (e_iload dX2_within_280 1 rfl (e_iconst (v := (-1)) dX2_within_282 (by decide) k)))) ?_
          refine es_br (c := v95 = ((-1))) (tgt := 286) (pf := 290) (st' := [.int (x3 + 1), .ref (w.2.1 + 412)]) (fun _ _ a b => e_icmp_ne dX2_within_283 rfl b a) (fun c96 => ?_) (fun c96 => ?_)
          · rw [if_pos c96] at hf
            refine es_l (pc' := 306) (ls' := [(3, .int (x3 + 1)), (6, .int v95), (5, .ref (w.2.1 + (103 + 2 * x4.toNatClampNeg))), (0, .ref (w.2.1 + 409)), (2, .int x2), (4, .int x4)]) (st' := [.int 0, .int (x3 + 1), .ref (w.2.1 + 412)]) (fun _ _ k => e_iconst (v := 0) dX2_within_286 (by decide) (e_goto (tgt := 306) dX2_within_287 rfl k)) ?_
            refine es_sub [3, 4, 0, 5] rfl ?_
            exact t_X2_within_306 N (f_X2_within_5 N n) ih x2 (x3 + 1) x4 0 (x3 + 1) S94 r hf
          · rw [if_neg c96] at hf
            refine es_l (pc' := 291) (ls' := [(3, .int (x3 + 1)), (6, .int v95), (5, .ref (w.2.1 + (103 + 2 * x4.toNatClampNeg))), (0, .ref (w.2.1 + 409)), (2, .int x2), (4, .int x4)]) (st' := [.ref (w.2.1 + 409), .int (x3 + 1), .ref (w.2.1 + 412)]) (fun _ _ k => e_aload_n dX2_within_290 3 rfl k) ?_
            refine es_get (v := .ref (w.2.1 + 29)) xc_2 dX2_within_291 fl_X2_34 (by decide) (by decide) (cel_409 _ _ _) rfl ?_
            refine es_get (v := .ref (w.2.1 + 31)) xc_10 dX2_within_294 fl_X2_158 (by decide) (by decide) (cel_29 _ _ _) rfl ?_
            refine es_l (pc' := 299) (ls' := [(3, .int (x3 + 1)), (6, .int v95), (5, .ref (w.2.1 + (103 + 2 * x4.toNatClampNeg))), (0, .ref (w.2.1 + 409)), (2, .int x2), (4, .int x4)]) (st' := [.int v95, .ref (w.2.1 + 31), .int (x3 + 1), .ref (w.2.1 + 412)]) (fun _ _ k => e_iload dX2_within_297 1 rfl k) ?_
            obtain ⟨g97, hf⟩ := xg hf
            refine es_aald (v := .ref (w.2.1 + (32 + v95.toNatClampNeg))) rfl dX2_within_299 (by decide) (cel_31 _ _ _) g97 rfl ?_
            refine es_l (pc' := 302) (ls' := [(3, .int (x3 + 1)), (6, .int v95), (5, .ref (w.2.1 + (103 + 2 * x4.toNatClampNeg))), (0, .ref (w.2.1 + 409)), (2, .int x2), (4, .int x4)]) (st' := [.ref (w.2.1 + (103 + 2 * x4.toNatClampNeg)), .ref (w.2.1 + (32 + v95.toNatClampNeg)), .int (x3 + 1), .ref (w.2.1 + 412)]) (fun _ _ k => e_aload dX2_within_300 2 rfl k) ?_
            refine es_get (v := .int (S94.1 (103 + 2 * x4.toNatClampNeg) 3)) xc_4 dX2_within_302 fl_X2_206 (by decide) (xPart_lt (xPart_at g73)) (cel_pa (xPart_at g73) _ _ _) rfl ?_
            obtain ⟨g98, hf⟩ := xg hf
            refine es_iald (v := .int (S94.1 (32 + v95.toNatClampNeg) ((S94.1 (103 + 2 * x4.toNatClampNeg) 3).toNatClampNeg))) dX2_within_305 (xReg32_lt (xReg32_at g97)) (cel_r32 (xReg32_at g97) _ _ _) g98 rfl ?_
            refine es_sub [3, 4, 0, 5] rfl ?_
            exact t_X2_within_306 N (f_X2_within_5 N n) ih x2 (x3 + 1) x4 (S94.1 (32 + v95.toNatClampNeg) ((S94.1 (103 + 2 * x4.toNatClampNeg) 3).toNatClampNeg)) (x3 + 1) S94 r hf
        rw [if_neg c93] at hf
        refine es_l (pc' := 380) (ls' := [(5, .ref (w.2.1 + (103 + 2 * x4.toNatClampNeg))), (0, .ref (w.2.1 + 409)), (2, .int x2), (3, .int x3), (4, .int x4)]) (st' := []) (fun _ _ k => e_tabD (L := [16, 17, 18, 19, 20, 41, 44, 45, 46, 47]) dX2_within_50 (by  simp only [List.mem_cons, List.not_mem_nil, or_false] at *; omega) (by decide) rfl k) ?_
        refine es_l (pc' := 384) (ls' := [(3, .int (x3 + (-1))), (5, .ref (w.2.1 + (103 + 2 * x4.toNatClampNeg))), (0, .ref (w.2.1 + 409)), (2, .int x2), (4, .int x4)]) (st' := [.ref (w.2.1 + 409)]) (fun _ _ k => e_iinc (v := x3 + (-1)) (ls' := [(3, .int (x3 + (-1))), (5, .ref (w.2.1 + (103 + 2 * x4.toNatClampNeg))), (0, .ref (w.2.1 + 409)), (2, .int x2), (4, .int x4)]) dX2_within_380 3 rfl rfl (by decide) rfl (e_aload_n dX2_within_383 2 rfl k)) ?_
        refine es_get (v := .ref (w.2.1 + 412)) xc_2 dX2_within_384 fl_X2_18 (by decide) (by decide) (cel_409 _ _ _) rfl ?_
        refine es_l (pc' := 390) (ls' := [(3, .int (x3 + (-1))), (5, .ref (w.2.1 + (103 + 2 * x4.toNatClampNeg))), (0, .ref (w.2.1 + 409)), (2, .int x2), (4, .int x4)]) (st' := [.ref (w.2.1 + (103 + 2 * x4.toNatClampNeg)), .int (x3 + (-1)), .ref (w.2.1 + 412)]) (fun _ _ k => e_iload_n dX2_within_387 0 rfl (e_aload dX2_within_388 1 rfl k)) ?_
        refine es_get (v := .int (S.1 (103 + 2 * x4.toNatClampNeg) 0)) xc_4 dX2_within_390 fl_X2_180 (by decide) (xPart_lt (xPart_at g73)) (cel_pa (xPart_at g73) _ _ _) rfl ?_
        refine es_l (pc' := 394) (ls' := [(3, .int (x3 + (-1))), (5, .ref (w.2.1 + (103 + 2 * x4.toNatClampNeg))), (0, .ref (w.2.1 + 409)), (2, .int x2), (4, .int x4)]) (st' := [.ref (w.2.1 + 409), .int (S.1 (103 + 2 * x4.toNatClampNeg) 0), .int (x3 + (-1)), .ref (w.2.1 + 412)]) (fun _ _ k => e_aload_n dX2_within_393 2 rfl k) ?_
        refine es_get (v := .ref (w.2.1 + 412)) xc_2 dX2_within_394 fl_X2_18 (by decide) (by decide) (cel_409 _ _ _) rfl ?_
        refine es_l (pc' := 398) (ls' := [(3, .int (x3 + (-1))), (5, .ref (w.2.1 + (103 + 2 * x4.toNatClampNeg))), (0, .ref (w.2.1 + 409)), (2, .int x2), (4, .int x4)]) (st' := [.int (x3 + (-1)), .ref (w.2.1 + 412), .int (S.1 (103 + 2 * x4.toNatClampNeg) 0), .int (x3 + (-1)), .ref (w.2.1 + 412)]) (fun _ _ k => e_iload_n dX2_within_397 0 rfl k) ?_
        obtain ⟨g99, hf⟩ := xg hf
        refine es_iald (v := .int (S.1 412 ((x3 + (-1)).toNatClampNeg))) dX2_within_398 (by decide) (cel_412 _ _ _) g99 rfl ?_
        refine es_l (pc' := 400) (ls' := [(3, .int (x3 + (-1))), (5, .ref (w.2.1 + (103 + 2 * x4.toNatClampNeg))), (0, .ref (w.2.1 + 409)), (2, .int x2), (4, .int x4)]) (st' := [.ref (w.2.1 + 409), .int (S.1 412 ((x3 + (-1)).toNatClampNeg)), .int (S.1 (103 + 2 * x4.toNatClampNeg) 0), .int (x3 + (-1)), .ref (w.2.1 + 412)]) (fun _ _ k => e_aload_n dX2_within_399 2 rfl k) ?_
        refine es_get (v := .ref (w.2.1 + 412)) xc_2 dX2_within_400 fl_X2_18 (by decide) (by decide) (cel_409 _ _ _) rfl ?_
        refine es_l (pc' := 406) (ls' := [(3, .int (x3 + (-1))), (5, .ref (w.2.1 + (103 + 2 * x4.toNatClampNeg))), (0, .ref (w.2.1 + 409)), (2, .int x2), (4, .int x4)]) (st' := [.int ((x3 + (-1)) + 1), .ref (w.2.1 + 412), .int (S.1 412 ((x3 + (-1)).toNatClampNeg)), .int (S.1 (103 + 2 * x4.toNatClampNeg) 0), .int (x3 + (-1)), .ref (w.2.1 + 412)]) (fun _ _ k => e_iload_n dX2_within_403 0 rfl (e_iconst (v := 1) dX2_within_404 (by decide) (e_iadd dX2_within_405 k))) ?_
        obtain ⟨g100, hf⟩ := xg hf
        refine es_iald (v := .int (S.1 412 (((x3 + (-1)) + 1).toNatClampNeg))) dX2_within_406 (by decide) (cel_412 _ _ _) g100 rfl ?_
        refine es_callSI (as := [.int (S.1 (103 + 2 * x4.toNatClampNeg) 0), .int (S.1 412 ((x3 + (-1)).toNatClampNeg)), .int (S.1 412 (((x3 + (-1)) + 1).toNatClampNeg))]) (rest := [.int (x3 + (-1)), .ref (w.2.1 + 412)]) hf dX2_within_407 cs_X2_within_X2_joined ml_X2_208 st_X2_joined rfl rfl (Nat.le_of_ble_eq_true rfl) (Nat.le_of_ble_eq_true rfl) (fun _ e => t_X2_joined N (S.1 (103 + 2 * x4.toNatClampNeg) 0) (S.1 412 ((x3 + (-1)).toNatClampNeg)) (S.1 412 (((x3 + (-1)) + 1).toNatClampNeg)) S _ e) (by decide) (fun v102 S101 hf => ?_)
        refine es_iast dX2_within_410 (by decide) (cel_412 _) g99 ?_
        refine es_sub [2, 3, 0, 4] rfl ?_
        exact t_X2_within_411 N (f_X2_within_5 N n) ih x2 (x3 + (-1)) x4 (sI S101 412 ((x3 + (-1)).toNatClampNeg) v102) r hf
def f_X2_within (N : Nat) (x1 : Int32) (x2 : Int32) (S : xS) : Option xr :=
  f_X2_within_5 N N x2 ((-1)) x1 S
set_option maxRecDepth 100000 in
set_option maxHeartbeats 4000000 in
theorem t_X2_within {l : Launch} {w : xW} {g : Nat → xE} (N : Nat) (x1 : Int32) (x2 : Int32) (S : xS) (r : xr) (hf : f_X2_within N x1 x2 S = some r) : ES l w g M_X2_within 0 (lv_args 0 [.ref (w.2.1 + 409), .int x1, .int x2]) [] S r := by
  show ES l w g M_X2_within 0 [(0, .ref (w.2.1 + 409)), (1, .int x1), (2, .int x2)] [] S r
  unfold f_X2_within at hf
  refine es_l (pc' := 5) (ls' := [(4, .int x1), (3, .int ((-1))), (0, .ref (w.2.1 + 409)), (1, .int x1), (2, .int x2)]) (st' := []) (fun _ _ k => e_iconst (v := (-1)) dX2_within_0 (by decide) (e_istore_n (ls' := [(3, .int ((-1))), (0, .ref (w.2.1 + 409)), (1, .int x1), (2, .int x2)]) dX2_within_1 (by decide) rfl (e_iload_n dX2_within_2 2 rfl (e_istore (ls' := [(4, .int x1), (3, .int ((-1))), (0, .ref (w.2.1 + 409)), (1, .int x1), (2, .int x2)]) dX2_within_3 (by decide) rfl k)))) ?_
  refine es_sub [2, 4, 1, 0] rfl ?_
  exact t_X2_within_5 N N x2 ((-1)) x1 S r hf
def f_X2_found_60 (N : Nat) (k23 : Int32 → Int64 → Int64 → Int32 → xS → Option xr) (x2 : Int32) (y3 : Int64) (y5 : Int64) (x7 : Int32) (S : xS) : Option xr :=
  k23 x2 y3 y5 (x7 + 1) S
set_option maxRecDepth 100000 in
set_option maxHeartbeats 4000000 in
theorem t_X2_found_60 {l : Launch} {w : xW} {g : Nat → xE} (N : Nat) (k23 : Int32 → Int64 → Int64 → Int32 → xS → Option xr) (hk23 : ∀ (x2 : Int32) (y3 : Int64) (y5 : Int64) (x7 : Int32) (S : xS) (r : xr), k23 x2 y3 y5 x7 S = some r → ES l w g M_X2_found 23 [(0, .ref (w.2.1 + 409)), (2, .int x2), (3, .long y3), (5, .long y5), (7, .int x7)] [] S r) (x2 : Int32) (y3 : Int64) (y5 : Int64) (x7 : Int32) (S : xS) (r : xr) (hf : f_X2_found_60 N k23 x2 y3 y5 x7 S = some r) : ES l w g M_X2_found 60 [(0, .ref (w.2.1 + 409)), (2, .int x2), (3, .long y3), (5, .long y5), (7, .int x7)] [] S r := by
  unfold f_X2_found_60 at hf
  refine es_l (pc' := 23) (ls' := [(7, .int (x7 + 1)), (0, .ref (w.2.1 + 409)), (2, .int x2), (3, .long y3), (5, .long y5)]) (st' := []) (fun _ _ k => e_iinc (v := x7 + 1) (ls' := [(7, .int (x7 + 1)), (0, .ref (w.2.1 + 409)), (2, .int x2), (3, .long y3), (5, .long y5)]) dX2_found_60 4 rfl rfl (by decide) rfl (e_goto (tgt := 23) dX2_found_63 rfl k)) ?_
  refine es_sub [1, 2, 3, 4, 0] rfl ?_
  exact hk23 x2 y3 y5 (x7 + 1) S r hf
def f_X2_found_23 (N : Nat)  : Nat → Int32 → Int64 → Int64 → Int32 → xS → Option xr
  | 0, _, _, _, _, _ => none
  | n + 1, x2, y3, y5, x7, S =>
  if 64 ≤ x7 then
    some (.inl (some (.inr (.inl y5))), S)
  else
    if (lg_cmp ((((y3 : Int64).toUInt64 >>> ((x7 : Int32).toInt64.toUInt64 &&& Int64.toUInt64 63)).toInt64) &&& 1) 0) = 0 then
      f_X2_found_60 N (f_X2_found_23 N n) x2 y3 y5 x7 S
    else
      xcI (f_X2_within N x2 x7 S) (fun v18 S17 =>
      if v18 = 0 then
        f_X2_found_60 N (f_X2_found_23 N n) x2 y3 y5 x7 S17
      else
        f_X2_found_60 N (f_X2_found_23 N n) x2 y3 (y5 ||| ((1 : Int64) <<< ((x7 : Int32).toInt64 &&& 63))) x7 S17
      )
set_option maxRecDepth 100000 in
set_option maxHeartbeats 4000000 in
theorem t_X2_found_23 {l : Launch} {w : xW} {g : Nat → xE} (N : Nat)   : ∀ (n : Nat) (x2 : Int32) (y3 : Int64) (y5 : Int64) (x7 : Int32) (S : xS) (r : xr), f_X2_found_23 N  n x2 y3 y5 x7 S = some r → ES l w g M_X2_found 23 [(0, .ref (w.2.1 + 409)), (2, .int x2), (3, .long y3), (5, .long y5), (7, .int x7)] [] S r := by
  intro n
  induction n with
  | zero => intro x2 y3 y5 x7 S r hf; cases hf
  | succ n ih =>
    intro x2 y3 y5 x7 S r hf
    rw [f_X2_found_23.eq_2] at hf
    refine es_l (pc' := 27) (ls' := [(0, .ref (w.2.1 + 409)), (2, .int x2), (3, .long y3), (5, .long y5), (7, .int x7)]) (st' := [.int 64, .int x7]) (fun _ _ k => e_iload dX2_found_23 4 rfl (e_bipush (v := 64) dX2_found_25 (by decide) k)) ?_
    refine es_br (c := 64 ≤ x7) (tgt := 66) (pf := 30) (st' := []) (fun _ _ a b => e_icmp_ge dX2_found_27 rfl a b) (fun c15 => ?_) (fun c15 => ?_)
    · rw [if_pos c15] at hf
      refine es_l (pc' := 68) (ls' := [(0, .ref (w.2.1 + 409)), (2, .int x2), (3, .long y3), (5, .long y5), (7, .int x7)]) (st' := [.long y5]) (fun _ _ k => e_lload dX2_found_66 3 rfl k) ?_
      exact es_lreturn dX2_found_68 rfl hf
    · rw [if_neg c15] at hf
      refine es_l (pc' := 38) (ls' := [(0, .ref (w.2.1 + 409)), (2, .int x2), (3, .long y3), (5, .long y5), (7, .int x7)]) (st' := [.int (lg_cmp ((((y3 : Int64).toUInt64 >>> ((x7 : Int32).toInt64.toUInt64 &&& Int64.toUInt64 63)).toInt64) &&& 1) 0)]) (fun _ _ k => e_lload_n dX2_found_30 2 rfl (e_iload dX2_found_31 4 rfl (e_lushr (v := ((y3 : Int64).toUInt64 >>> ((x7 : Int32).toInt64.toUInt64 &&& Int64.toUInt64 63)).toInt64) dX2_found_33 rfl (e_lconst (v := 1) dX2_found_34 (by decide) (e_land dX2_found_35 (e_lconst (v := 0) dX2_found_36 (by decide) (e_lcmp dX2_found_37 k))))))) ?_
      refine es_br (c := (lg_cmp ((((y3 : Int64).toUInt64 >>> ((x7 : Int32).toInt64.toUInt64 &&& Int64.toUInt64 63)).toInt64) &&& 1) 0) = 0) (tgt := 60) (pf := 41) (st' := []) (fun _ _ a b => e_if_eq dX2_found_38 rfl a b) (fun c16 => ?_) (fun c16 => ?_)
      · rw [if_pos c16] at hf
        exact t_X2_found_60 N (f_X2_found_23 N n) ih x2 y3 y5 x7 S r hf
      · rw [if_neg c16] at hf
        refine es_l (pc' := 45) (ls' := [(0, .ref (w.2.1 + 409)), (2, .int x2), (3, .long y3), (5, .long y5), (7, .int x7)]) (st' := [.int x7, .int x2, .ref (w.2.1 + 409)]) (fun _ _ k => e_aload_n dX2_found_41 0 rfl (e_iload_n dX2_found_42 1 rfl (e_iload dX2_found_43 4 rfl k))) ?_
        refine es_callVI (as := [.int x2, .int x7]) (rest := []) hf xc_2 dX2_found_45 cs_X2_found_X2_within ml_X2_151 im_X2_within se_X2_within rfl rfl (Nat.le_of_ble_eq_true rfl) (Nat.le_of_ble_eq_true rfl) (by decide) rfl (cel_409 _ _ _) (fun _ e => t_X2_within N x2 x7 S _ e) (by decide) (fun v18 S17 hf => ?_)
        refine es_br (c := v18 = 0) (tgt := 60) (pf := 51) (st' := []) (fun _ _ a b => e_if_eq dX2_found_48 rfl a b) (fun c19 => ?_) (fun c19 => ?_)
        · rw [if_pos c19] at hf
          exact t_X2_found_60 N (f_X2_found_23 N n) ih x2 y3 y5 x7 S17 r hf
        · rw [if_neg c19] at hf
          refine es_l (pc' := 60) (ls' := [(5, .long (y5 ||| ((1 : Int64) <<< ((x7 : Int32).toInt64 &&& 63)))), (0, .ref (w.2.1 + 409)), (2, .int x2), (3, .long y3), (7, .int x7)]) (st' := []) (fun _ _ k => e_lload dX2_found_51 3 rfl (e_lconst (v := 1) dX2_found_53 (by decide) (e_iload dX2_found_54 4 rfl (e_lshl (v := (1 : Int64) <<< ((x7 : Int32).toInt64 &&& 63)) dX2_found_56 rfl (e_lor dX2_found_57 (e_lstore (ls' := [(5, .long (y5 ||| ((1 : Int64) <<< ((x7 : Int32).toInt64 &&& 63)))), (0, .ref (w.2.1 + 409)), (2, .int x2), (3, .long y3), (7, .int x7)]) dX2_found_58 (by decide) rfl k)))))) ?_
          refine es_sub [1, 2, 3, 0, 4] rfl ?_
          exact t_X2_found_60 N (f_X2_found_23 N n) ih x2 y3 (y5 ||| ((1 : Int64) <<< ((x7 : Int32).toInt64 &&& 63))) x7 S17 r hf
def f_X2_found (N : Nat) (x1 : Int32) (x2 : Int32) (S : xS) : Option xr :=
  if xin x1 8 then
  if x2 = ((-1)) then
    some (.inl (some (.inr (.inl (S.2.1 30 x1.toNatClampNeg)))), S)
  else
    f_X2_found_23 N N x2 (S.2.1 30 x1.toNatClampNeg) 0 0 S
  else none
set_option maxRecDepth 100000 in
set_option maxHeartbeats 4000000 in
theorem t_X2_found {l : Launch} {w : xW} {g : Nat → xE} (N : Nat) (x1 : Int32) (x2 : Int32) (S : xS) (r : xr) (hf : f_X2_found N x1 x2 S = some r) : ES l w g M_X2_found 0 (lv_args 0 [.ref (w.2.1 + 409), .int x1, .int x2]) [] S r := by
  show ES l w g M_X2_found 0 [(0, .ref (w.2.1 + 409)), (1, .int x1), (2, .int x2)] [] S r
  unfold f_X2_found at hf
  refine es_l (pc' := 1) (ls' := [(0, .ref (w.2.1 + 409)), (1, .int x1), (2, .int x2)]) (st' := [.ref (w.2.1 + 409)]) (fun _ _ k => e_aload_n dX2_found_0 0 rfl k) ?_
  refine es_get (v := .ref (w.2.1 + 29)) xc_2 dX2_found_1 fl_X2_34 (by decide) (by decide) (cel_409 _ _ _) rfl ?_
  refine es_get (v := .ref (w.2.1 + 30)) xc_10 dX2_found_4 fl_X2_169 (by decide) (by decide) (cel_29 _ _ _) rfl ?_
  refine es_l (pc' := 8) (ls' := [(0, .ref (w.2.1 + 409)), (1, .int x1), (2, .int x2)]) (st' := [.int x1, .ref (w.2.1 + 30)]) (fun _ _ k => e_iload_n dX2_found_7 1 rfl k) ?_
  obtain ⟨g20, hf⟩ := xg hf
  refine es_lald (v := .long (S.2.1 30 x1.toNatClampNeg)) dX2_found_8 (by decide) (cel_30 _ _ _) g20 rfl ?_
  refine es_l (pc' := 12) (ls' := [(3, .long (S.2.1 30 x1.toNatClampNeg)), (0, .ref (w.2.1 + 409)), (1, .int x1), (2, .int x2)]) (st' := [.int ((-1)), .int x2]) (fun _ _ k => e_lstore_n (ls' := [(3, .long (S.2.1 30 x1.toNatClampNeg)), (0, .ref (w.2.1 + 409)), (1, .int x1), (2, .int x2)]) dX2_found_9 (by decide) rfl (e_iload_n dX2_found_10 3 rfl (e_iconst (v := (-1)) dX2_found_11 (by decide) k))) ?_
  refine es_br (c := x2 = ((-1))) (tgt := 15) (pf := 17) (st' := []) (fun _ _ a b => e_icmp_ne dX2_found_12 rfl b a) (fun c21 => ?_) (fun c21 => ?_)
  · rw [if_pos c21] at hf
    refine es_l (pc' := 16) (ls' := [(3, .long (S.2.1 30 x1.toNatClampNeg)), (0, .ref (w.2.1 + 409)), (1, .int x1), (2, .int x2)]) (st' := [.long (S.2.1 30 x1.toNatClampNeg)]) (fun _ _ k => e_lload_n dX2_found_15 0 rfl k) ?_
    exact es_lreturn dX2_found_16 rfl hf
  · rw [if_neg c21] at hf
    refine es_l (pc' := 23) (ls' := [(7, .int 0), (5, .long 0), (3, .long (S.2.1 30 x1.toNatClampNeg)), (0, .ref (w.2.1 + 409)), (1, .int x1), (2, .int x2)]) (st' := []) (fun _ _ k => e_lconst (v := 0) dX2_found_17 (by decide) (e_lstore (ls' := [(5, .long 0), (3, .long (S.2.1 30 x1.toNatClampNeg)), (0, .ref (w.2.1 + 409)), (1, .int x1), (2, .int x2)]) dX2_found_18 (by decide) rfl (e_iconst (v := 0) dX2_found_20 (by decide) (e_istore (ls' := [(7, .int 0), (5, .long 0), (3, .long (S.2.1 30 x1.toNatClampNeg)), (0, .ref (w.2.1 + 409)), (1, .int x1), (2, .int x2)]) dX2_found_21 (by decide) rfl k)))) ?_
    refine es_sub [3, 5, 2, 1, 0] rfl ?_
    exact t_X2_found_23 N N x2 (S.2.1 30 x1.toNatClampNeg) 0 0 S r hf
