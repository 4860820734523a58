def f_X9_name_27 (N : Nat)  (sy0 : Int64) (S : xS) : Option xr :=
  some (.inl (some (.inr (.inl sy0))), S)
set_option maxRecDepth 100000 in
set_option maxHeartbeats 4000000 in
theorem t_X9_name_27 {l : Launch} {w : xW} {g : Nat → xE} (N : Nat)   (sy0 : Int64) (S : xS) (r : xr) (hf : f_X9_name_27 N  sy0 S = some r) : ES l w g M_X9_name 27 [] [.long sy0] S r := by
  unfold f_X9_name_27 at hf
  exact es_lreturn dX9_name_27 rfl hf
def f_X9_name (N : Nat)  (S : xS) : Option xr :=
  if xin (S.1 1 7) 151 then
  if (S.1 4 ((S.1 1 7).toNatClampNeg)) = 40 then
    f_X9_name_27 N (S.2.1 6 ((S.1 1 7).toNatClampNeg)) S
  else
    f_X9_name_27 N 0 S
  else none
set_option maxRecDepth 100000 in
set_option maxHeartbeats 4000000 in
theorem t_X9_name {l : Launch} {w : xW} {g : Nat → xE} (N : Nat)  (S : xS) (r : xr) (hf : f_X9_name N  S = some r) : ES l w g M_X9_name 0 (lv_args 0 [.ref (w.2.1 + 1)]) [] S r := by
  show ES l w g M_X9_name 0 [(0, .ref (w.2.1 + 1))] [] S r
  unfold f_X9_name at hf
  refine es_l (pc' := 1) (ls' := [(0, .ref (w.2.1 + 1))]) (st' := [.ref (w.2.1 + 1)]) (fun _ _ k => e_aload_n dX9_name_0 0 rfl k) ?_
  refine es_get (v := .ref (w.2.1 + 4)) xc_9 dX9_name_1 fl_X9_19 (by decide) (by decide) (cel_1 _ _ _) rfl ?_
  refine es_l (pc' := 5) (ls' := [(0, .ref (w.2.1 + 1))]) (st' := [.ref (w.2.1 + 1), .ref (w.2.1 + 4)]) (fun _ _ k => e_aload_n dX9_name_4 0 rfl k) ?_
  refine es_get (v := .int (S.1 1 7)) xc_9 dX9_name_5 fl_X9_48 (by decide) (by decide) (cel_1 _ _ _) rfl ?_
  obtain ⟨g5, hf⟩ := xg hf
  refine es_iald (v := .int (S.1 4 ((S.1 1 7).toNatClampNeg))) dX9_name_8 (by decide) (cel_4 _ _ _) g5 rfl ?_
  refine es_l (pc' := 11) (ls' := [(0, .ref (w.2.1 + 1))]) (st' := [.int 40, .int (S.1 4 ((S.1 1 7).toNatClampNeg))]) (fun _ _ k => e_bipush (v := 40) dX9_name_9 (by decide) k) ?_
  refine es_br (c := (S.1 4 ((S.1 1 7).toNatClampNeg)) = 40) (tgt := 14) (pf := 26) (st' := []) (fun _ _ a b => e_icmp_ne dX9_name_11 rfl b a) (fun c6 => ?_) (fun c6 => ?_)
  · rw [if_pos c6] at hf
    refine es_l (pc' := 15) (ls' := [(0, .ref (w.2.1 + 1))]) (st' := [.ref (w.2.1 + 1)]) (fun _ _ k => e_aload_n dX9_name_14 0 rfl k) ?_
    refine es_get (v := .ref (w.2.1 + 6)) xc_9 dX9_name_15 fl_X9_26 (by decide) (by decide) (cel_1 _ _ _) rfl ?_
    refine es_l (pc' := 19) (ls' := [(0, .ref (w.2.1 + 1))]) (st' := [.ref (w.2.1 + 1), .ref (w.2.1 + 6)]) (fun _ _ k => e_aload_n dX9_name_18 0 rfl k) ?_
    refine es_get (v := .int (S.1 1 7)) xc_9 dX9_name_19 fl_X9_48 (by decide) (by decide) (cel_1 _ _ _) rfl ?_
    refine es_lald (v := .long (S.2.1 6 ((S.1 1 7).toNatClampNeg))) dX9_name_22 (by decide) (cel_6 _ _ _) g5 rfl ?_
    refine es_l (pc' := 27) (ls' := [(0, .ref (w.2.1 + 1))]) (st' := [.long (S.2.1 6 ((S.1 1 7).toNatClampNeg))]) (fun _ _ k => e_goto (tgt := 27) dX9_name_23 rfl k) ?_
    refine es_sub [] rfl ?_
    exact t_X9_name_27 N (S.2.1 6 ((S.1 1 7).toNatClampNeg)) S r hf
  · rw [if_neg c6] at hf
    refine es_l (pc' := 27) (ls' := [(0, .ref (w.2.1 + 1))]) (st' := [.long 0]) (fun _ _ k => e_lconst (v := 0) dX9_name_26 (by decide) k) ?_
    refine es_sub [] rfl ?_
    exact t_X9_name_27 N 0 S r hf
def f_X3_field_3 (N : Nat)  : Nat → Int32 → Int64 → Int32 → xS → Option xr
  | 0, _, _, _, _ => none
  | n + 1, x1, y2, x4, S =>
  if xin x1 8 then
  if (S.1 9 x1.toNatClampNeg) ≤ x4 then
    some (.inl (some (.inl ((-1)))), S)
  else
    if xin x4 6 then
    if (lg_cmp (S.2.1 (11 + x1.toNatClampNeg) x4.toNatClampNeg) y2) = 0 then
      some (.inl (some (.inl x4)), S)
    else
      f_X3_field_3 N n x1 y2 (x4 + 1) S
    else none
  else none
set_option maxRecDepth 100000 in
set_option maxHeartbeats 4000000 in
theorem t_X3_field_3 {l : Launch} {w : xW} {g : Nat → xE} (N : Nat)   : ∀ (n : Nat) (x1 : Int32) (y2 : Int64) (x4 : Int32) (S : xS) (r : xr), f_X3_field_3 N  n x1 y2 x4 S = some r → ES l w g M_X3_field 3 [(0, .ref (w.2.1 + 7)), (1, .int x1), (2, .long y2), (4, .int x4)] [] S r := by
  intro n
  induction n with
  | zero => intro x1 y2 x4 S r hf; cases hf
  | succ n ih =>
    intro x1 y2 x4 S r hf
    rw [f_X3_field_3.eq_2] at hf
    refine es_l (pc' := 6) (ls' := [(0, .ref (w.2.1 + 7)), (1, .int x1), (2, .long y2), (4, .int x4)]) (st' := [.ref (w.2.1 + 7), .int x4]) (fun _ _ k => e_iload dX3_field_3 3 rfl (e_aload_n dX3_field_5 0 rfl k)) ?_
    refine es_get (v := .ref (w.2.1 + 9)) xc_3 dX3_field_6 fl_X3_15 (by decide) (by decide) (cel_7 _ _ _) rfl ?_
    refine es_l (pc' := 10) (ls' := [(0, .ref (w.2.1 + 7)), (1, .int x1), (2, .long y2), (4, .int x4)]) (st' := [.int x1, .ref (w.2.1 + 9), .int x4]) (fun _ _ k => e_iload_n dX3_field_9 1 rfl k) ?_
    obtain ⟨g9, hf⟩ := xg hf
    refine es_iald (v := .int (S.1 9 x1.toNatClampNeg)) dX3_field_10 (by decide) (cel_9 _ _ _) g9 rfl ?_
    refine es_br (c := (S.1 9 x1.toNatClampNeg) ≤ x4) (tgt := 37) (pf := 14) (st' := []) (fun _ _ a b => e_icmp_ge dX3_field_11 rfl a b) (fun c10 => ?_) (fun c10 => ?_)
    · rw [if_pos c10] at hf
      refine es_l (pc' := 38) (ls' := [(0, .ref (w.2.1 + 7)), (1, .int x1), (2, .long y2), (4, .int x4)]) (st' := [.int ((-1))]) (fun _ _ k => e_iconst (v := (-1)) dX3_field_37 (by decide) k) ?_
      exact es_ireturn (ty := .int) dX3_field_38 rfl rfl hf
    · rw [if_neg c10] at hf
      refine es_l (pc' := 15) (ls' := [(0, .ref (w.2.1 + 7)), (1, .int x1), (2, .long y2), (4, .int x4)]) (st' := [.ref (w.2.1 + 7)]) (fun _ _ k => e_aload_n dX3_field_14 0 rfl k) ?_
      refine es_get (v := .ref (w.2.1 + 10)) xc_3 dX3_field_15 fl_X3_21 (by decide) (by decide) (cel_7 _ _ _) rfl ?_
      refine es_l (pc' := 19) (ls' := [(0, .ref (w.2.1 + 7)), (1, .int x1), (2, .long y2), (4, .int x4)]) (st' := [.int x1, .ref (w.2.1 + 10)]) (fun _ _ k => e_iload_n dX3_field_18 1 rfl k) ?_
      refine es_aald (v := .ref (w.2.1 + (11 + x1.toNatClampNeg))) rfl dX3_field_19 (by decide) (cel_10 _ _ _) g9 rfl ?_
      refine es_l (pc' := 22) (ls' := [(0, .ref (w.2.1 + 7)), (1, .int x1), (2, .long y2), (4, .int x4)]) (st' := [.int x4, .ref (w.2.1 + (11 + x1.toNatClampNeg))]) (fun _ _ k => e_iload dX3_field_20 3 rfl k) ?_
      obtain ⟨g11, hf⟩ := xg hf
      refine es_lald (v := .long (S.2.1 (11 + x1.toNatClampNeg) x4.toNatClampNeg)) dX3_field_22 (xReg11_lt (xReg11_at g9)) (cel_r11 (xReg11_at g9) _ _ _) g11 rfl ?_
      refine es_l (pc' := 25) (ls' := [(0, .ref (w.2.1 + 7)), (1, .int x1), (2, .long y2), (4, .int x4)]) (st' := [.int (lg_cmp (S.2.1 (11 + x1.toNatClampNeg) x4.toNatClampNeg) y2)]) (fun _ _ k => e_lload_n dX3_field_23 2 rfl (e_lcmp dX3_field_24 k)) ?_
      refine es_br (c := (lg_cmp (S.2.1 (11 + x1.toNatClampNeg) x4.toNatClampNeg) y2) = 0) (tgt := 28) (pf := 31) (st' := []) (fun _ _ a b => e_if_ne dX3_field_25 rfl b a) (fun c12 => ?_) (fun c12 => ?_)
      · rw [if_pos c12] at hf
        refine es_l (pc' := 30) (ls' := [(0, .ref (w.2.1 + 7)), (1, .int x1), (2, .long y2), (4, .int x4)]) (st' := [.int x4]) (fun _ _ k => e_iload dX3_field_28 3 rfl k) ?_
        exact es_ireturn (ty := .int) dX3_field_30 rfl rfl hf
      · rw [if_neg c12] at hf
        refine es_l (pc' := 3) (ls' := [(4, .int (x4 + 1)), (0, .ref (w.2.1 + 7)), (1, .int x1), (2, .long y2)]) (st' := []) (fun _ _ k => e_iinc (v := x4 + 1) (ls' := [(4, .int (x4 + 1)), (0, .ref (w.2.1 + 7)), (1, .int x1), (2, .long y2)]) dX3_field_31 3 rfl rfl (by decide) rfl (e_goto (tgt := 3) dX3_field_34 rfl k)) ?_
        refine es_sub [1, 2, 3, 0] rfl ?_
        exact ih x1 y2 (x4 + 1) S r hf
def f_X3_field (N : Nat) (x1 : Int32) (y2 : Int64) (S : xS) : Option xr :=
  f_X3_field_3 N N x1 y2 0 S
set_option maxRecDepth 100000 in
set_option maxHeartbeats 4000000 in
theorem t_X3_field {l : Launch} {w : xW} {g : Nat → xE} (N : Nat) (x1 : Int32) (y2 : Int64) (S : xS) (r : xr) (hf : f_X3_field N x1 y2 S = some r) : ES l w g M_X3_field 0 (lv_args 0 [.ref (w.2.1 + 7), .int x1, .long y2]) [] S r := by
  show ES l w g M_X3_field 0 [(0, .ref (w.2.1 + 7)), (1, .int x1), (2, .long y2)] [] S r
  unfold f_X3_field at hf
  refine es_l (pc' := 3) (ls' := [(4, .int 0), (0, .ref (w.2.1 + 7)), (1, .int x1), (2, .long y2)]) (st' := []) (fun _ _ k => e_iconst (v := 0) dX3_field_0 (by decide) (e_istore (ls' := [(4, .int 0), (0, .ref (w.2.1 + 7)), (1, .int x1), (2, .long y2)]) dX3_field_1 (by decide) rfl k)) ?_
  refine es_sub [1, 2, 3, 0] rfl ?_
  exact t_X3_field_3 N N x1 y2 0 S r hf
def f_X3_kind_2 (N : Nat)  : Nat → Int64 → Int32 → xS → Option xr
  | 0, _, _, _ => none
  | n + 1, y1, x3, S =>
  if (S.1 7 5) < x3 then
    some (.inl (some (.inl 0)), S)
  else
    if xin x3 8 then
    if (lg_cmp (S.2.1 8 x3.toNatClampNeg) y1) = 0 then
      some (.inl (some (.inl x3)), S)
    else
      f_X3_kind_2 N n y1 (x3 + 1) S
    else none
set_option maxRecDepth 100000 in
set_option maxHeartbeats 4000000 in
theorem t_X3_kind_2 {l : Launch} {w : xW} {g : Nat → xE} (N : Nat)   : ∀ (n : Nat) (y1 : Int64) (x3 : Int32) (S : xS) (r : xr), f_X3_kind_2 N  n y1 x3 S = some r → ES l w g M_X3_kind 2 [(0, .ref (w.2.1 + 7)), (1, .long y1), (3, .int x3)] [] S r := by
  intro n
  induction n with
  | zero => intro y1 x3 S r hf; cases hf
  | succ n ih =>
    intro y1 x3 S r hf
    rw [f_X3_kind_2.eq_2] at hf
    refine es_l (pc' := 4) (ls' := [(0, .ref (w.2.1 + 7)), (1, .long y1), (3, .int x3)]) (st' := [.ref (w.2.1 + 7), .int x3]) (fun _ _ k => e_iload_n dX3_kind_2 2 rfl (e_aload_n dX3_kind_3 0 rfl k)) ?_
    refine es_get (v := .int (S.1 7 5)) xc_3 dX3_kind_4 fl_X3_32 (by decide) (by decide) (cel_7 _ _ _) rfl ?_
    refine es_br (c := (S.1 7 5) < x3) (tgt := 29) (pf := 10) (st' := []) (fun _ _ a b => e_icmp_gt dX3_kind_7 rfl a b) (fun c7 => ?_) (fun c7 => ?_)
    · rw [if_pos c7] at hf
      refine es_l (pc' := 30) (ls' := [(0, .ref (w.2.1 + 7)), (1, .long y1), (3, .int x3)]) (st' := [.int 0]) (fun _ _ k => e_iconst (v := 0) dX3_kind_29 (by decide) k) ?_
      exact es_ireturn (ty := .int) dX3_kind_30 rfl rfl hf
    · rw [if_neg c7] at hf
      refine es_l (pc' := 11) (ls' := [(0, .ref (w.2.1 + 7)), (1, .long y1), (3, .int x3)]) (st' := [.ref (w.2.1 + 7)]) (fun _ _ k => e_aload_n dX3_kind_10 0 rfl k) ?_
      refine es_get (v := .ref (w.2.1 + 8)) xc_3 dX3_kind_11 fl_X3_9 (by decide) (by decide) (cel_7 _ _ _) rfl ?_
      refine es_l (pc' := 15) (ls' := [(0, .ref (w.2.1 + 7)), (1, .long y1), (3, .int x3)]) (st' := [.int x3, .ref (w.2.1 + 8)]) (fun _ _ k => e_iload_n dX3_kind_14 2 rfl k) ?_
      obtain ⟨g8, hf⟩ := xg hf
      refine es_lald (v := .long (S.2.1 8 x3.toNatClampNeg)) dX3_kind_15 (by decide) (cel_8 _ _ _) g8 rfl ?_
      refine es_l (pc' := 18) (ls' := [(0, .ref (w.2.1 + 7)), (1, .long y1), (3, .int x3)]) (st' := [.int (lg_cmp (S.2.1 8 x3.toNatClampNeg) y1)]) (fun _ _ k => e_lload_n dX3_kind_16 1 rfl (e_lcmp dX3_kind_17 k)) ?_
      refine es_br (c := (lg_cmp (S.2.1 8 x3.toNatClampNeg) y1) = 0) (tgt := 21) (pf := 23) (st' := []) (fun _ _ a b => e_if_ne dX3_kind_18 rfl b a) (fun c9 => ?_) (fun c9 => ?_)
      · rw [if_pos c9] at hf
        refine es_l (pc' := 22) (ls' := [(0, .ref (w.2.1 + 7)), (1, .long y1), (3, .int x3)]) (st' := [.int x3]) (fun _ _ k => e_iload_n dX3_kind_21 2 rfl k) ?_
        exact es_ireturn (ty := .int) dX3_kind_22 rfl rfl hf
      · rw [if_neg c9] at hf
        refine es_l (pc' := 2) (ls' := [(3, .int (x3 + 1)), (0, .ref (w.2.1 + 7)), (1, .long y1)]) (st' := []) (fun _ _ k => e_iinc (v := x3 + 1) (ls' := [(3, .int (x3 + 1)), (0, .ref (w.2.1 + 7)), (1, .long y1)]) dX3_kind_23 2 rfl rfl (by decide) rfl (e_goto (tgt := 2) dX3_kind_26 rfl k)) ?_
        refine es_sub [1, 2, 0] rfl ?_
        exact ih y1 (x3 + 1) S r hf
def f_X3_kind (N : Nat) (y1 : Int64) (S : xS) : Option xr :=
  f_X3_kind_2 N N y1 1 S
set_option maxRecDepth 100000 in
set_option maxHeartbeats 4000000 in
theorem t_X3_kind {l : Launch} {w : xW} {g : Nat → xE} (N : Nat) (y1 : Int64) (S : xS) (r : xr) (hf : f_X3_kind N y1 S = some r) : ES l w g M_X3_kind 0 (lv_args 0 [.ref (w.2.1 + 7), .long y1]) [] S r := by
  show ES l w g M_X3_kind 0 [(0, .ref (w.2.1 + 7)), (1, .long y1)] [] S r
  unfold f_X3_kind at hf
  refine es_l (pc' := 2) (ls' := [(3, .int 1), (0, .ref (w.2.1 + 7)), (1, .long y1)]) (st' := []) (fun _ _ k => e_iconst (v := 1) dX3_kind_0 (by decide) (e_istore_n (ls' := [(3, .int 1), (0, .ref (w.2.1 + 7)), (1, .long y1)]) dX3_kind_1 (by decide) rfl k)) ?_
  refine es_sub [1, 2, 0] rfl ?_
  exact t_X3_kind_2 N N y1 1 S r hf
def f_X7_cursor_63 (N : Nat) (k22 : Int32 → Int32 → xS → Option xr) (x1 : Int32) (x2 : Int32) (S : xS) : Option xr :=
  k22 x1 (x2 + (-1)) S
set_option maxRecDepth 100000 in
set_option maxHeartbeats 4000000 in
theorem t_X7_cursor_63 {l : Launch} {w : xW} {g : Nat → xE} (N : Nat) (k22 : Int32 → Int32 → xS → Option xr) (hk22 : ∀ (x1 : Int32) (x2 : Int32) (S : xS) (r : xr), k22 x1 x2 S = some r → ES l w g M_X7_cursor 22 [(0, .ref (w.2.1 + 405)), (1, .int x1), (2, .int x2)] [] S r) (x1 : Int32) (x2 : Int32) (S : xS) (r : xr) (hf : f_X7_cursor_63 N k22 x1 x2 S = some r) : ES l w g M_X7_cursor 63 [(0, .ref (w.2.1 + 405)), (1, .int x1), (2, .int x2)] [] S r := by
  unfold f_X7_cursor_63 at hf
  refine es_l (pc' := 22) (ls' := [(2, .int (x2 + (-1))), (0, .ref (w.2.1 + 405)), (1, .int x1)]) (st' := []) (fun _ _ k => e_iinc (v := x2 + (-1)) (ls' := [(2, .int (x2 + (-1))), (0, .ref (w.2.1 + 405)), (1, .int x1)]) dX7_cursor_63 2 rfl rfl (by decide) rfl (e_goto (tgt := 22) dX7_cursor_66 rfl k)) ?_
  refine es_sub [1, 2, 0] rfl ?_
  exact hk22 x1 (x2 + (-1)) S r hf
def f_X7_cursor_22 (N : Nat)  : Nat → Int32 → Int32 → xS → Option xr
  | 0, _, _, _ => none
  | n + 1, x1, x2, S =>
  if x2 < 0 then
    some (.inr "java/lang/IllegalArgumentException", sE S)
  else
    if xin x2 10 then
    if xin (S.1 406 x2.toNatClampNeg) 151 then
    if (S.1 (102 + 2 * (S.1 406 x2.toNatClampNeg).toNatClampNeg) 0) = 48 then
      if (S.1 (102 + 2 * (S.1 406 x2.toNatClampNeg).toNatClampNeg) 1) = x1 then
        some (.inl (some (.inl (S.1 (102 + 2 * (S.1 406 x2.toNatClampNeg).toNatClampNeg) 3))), S)
      else
        f_X7_cursor_63 N (f_X7_cursor_22 N n) x1 x2 S
    else
      f_X7_cursor_63 N (f_X7_cursor_22 N n) x1 x2 S
    else none
    else none
set_option maxRecDepth 100000 in
set_option maxHeartbeats 4000000 in
theorem t_X7_cursor_22 {l : Launch} {w : xW} {g : Nat → xE} (N : Nat)   : ∀ (n : Nat) (x1 : Int32) (x2 : Int32) (S : xS) (r : xr), f_X7_cursor_22 N  n x1 x2 S = some r → ES l w g M_X7_cursor 22 [(0, .ref (w.2.1 + 405)), (1, .int x1), (2, .int x2)] [] S r := by
  intro n
  induction n with
  | zero => intro x1 x2 S r hf; cases hf
  | succ n ih =>
    intro x1 x2 S r hf
    rw [f_X7_cursor_22.eq_2] at hf
    refine es_l (pc' := 23) (ls' := [(0, .ref (w.2.1 + 405)), (1, .int x1), (2, .int x2)]) (st' := [.int x2]) (fun _ _ k => e_iload_n dX7_cursor_22 2 rfl k) ?_
    refine es_br (c := x2 < 0) (tgt := 69) (pf := 26) (st' := []) (fun _ _ a b => e_if_lt dX7_cursor_23 rfl a b) (fun c19 => ?_) (fun c19 => ?_)
    · rw [if_pos c19] at hf
      exact es_throw (names := ["java/lang/RuntimeException", "java/lang/Exception"]) (by decide +kernel) (by decide +kernel) th_k_X7_40 th_i_IllegalArgumentException th_a_X7_40 th_g_X7_40 dX7_cursor_69 dX7_cursor_72 dX7_cursor_73 dX7_cursor_76 (by decide) (by decide) (by decide) hf
    · rw [if_neg c19] at hf
      refine es_l (pc' := 27) (ls' := [(0, .ref (w.2.1 + 405)), (1, .int x1), (2, .int x2)]) (st' := [.ref (w.2.1 + 405)]) (fun _ _ k => e_aload_n dX7_cursor_26 0 rfl k) ?_
      refine es_get (v := .ref (w.2.1 + 97)) xc_7 dX7_cursor_27 fl_X7_23 (by decide) (by decide) (cel_405 _ _ _) rfl ?_
      refine es_get (v := .ref (w.2.1 + 98)) xc_5 dX7_cursor_30 fl_X7_76 (by decide) (by decide) (cel_97 _ _ _) rfl ?_
      refine es_l (pc' := 34) (ls' := [(0, .ref (w.2.1 + 405)), (1, .int x1), (2, .int x2)]) (st' := [.ref (w.2.1 + 405), .ref (w.2.1 + 98)]) (fun _ _ k => e_aload_n dX7_cursor_33 0 rfl k) ?_
      refine es_get (v := .ref (w.2.1 + 406)) xc_7 dX7_cursor_34 fl_X7_9 (by decide) (by decide) (cel_405 _ _ _) rfl ?_
      refine es_l (pc' := 38) (ls' := [(0, .ref (w.2.1 + 405)), (1, .int x1), (2, .int x2)]) (st' := [.int x2, .ref (w.2.1 + 406), .ref (w.2.1 + 98)]) (fun _ _ k => e_iload_n dX7_cursor_37 2 rfl k) ?_
      obtain ⟨g20, hf⟩ := xg hf
      refine es_iald (v := .int (S.1 406 x2.toNatClampNeg)) dX7_cursor_38 (by decide) (cel_406 _ _ _) g20 rfl ?_
      obtain ⟨g21, hf⟩ := xg hf
      refine es_aald (v := .ref (w.2.1 + (102 + 2 * (S.1 406 x2.toNatClampNeg).toNatClampNeg))) rfl dX7_cursor_39 (by decide) (cel_98 _ _ _) g21 rfl ?_
      refine es_l (pc' := 42) (ls' := [(3, .ref (w.2.1 + (102 + 2 * (S.1 406 x2.toNatClampNeg).toNatClampNeg))), (0, .ref (w.2.1 + 405)), (1, .int x1), (2, .int x2)]) (st' := [.ref (w.2.1 + (102 + 2 * (S.1 406 x2.toNatClampNeg).toNatClampNeg))]) (fun _ _ k => e_astore_n (ls' := [(3, .ref (w.2.1 + (102 + 2 * (S.1 406 x2.toNatClampNeg).toNatClampNeg))), (0, .ref (w.2.1 + 405)), (1, .int x1), (2, .int x2)]) dX7_cursor_40 (by decide) rfl (e_aload_n dX7_cursor_41 0 rfl k)) ?_
      refine es_get (v := .int (S.1 (102 + 2 * (S.1 406 x2.toNatClampNeg).toNatClampNeg) 0)) xc_8 dX7_cursor_42 fl_X7_82 (by decide) (xStep_lt (xStep_at g21)) (cel_st (xStep_at g21) _ _ _) rfl ?_
      refine es_l (pc' := 47) (ls' := [(3, .ref (w.2.1 + (102 + 2 * (S.1 406 x2.toNatClampNeg).toNatClampNeg))), (0, .ref (w.2.1 + 405)), (1, .int x1), (2, .int x2)]) (st' := [.int 48, .int (S.1 (102 + 2 * (S.1 406 x2.toNatClampNeg).toNatClampNeg) 0)]) (fun _ _ k => e_bipush (v := 48) dX7_cursor_45 (by decide) k) ?_
      refine es_br (c := (S.1 (102 + 2 * (S.1 406 x2.toNatClampNeg).toNatClampNeg) 0) = 48) (tgt := 50) (pf := 63) (st' := []) (fun _ _ a b => e_icmp_ne dX7_cursor_47 rfl b a) (fun c22 => ?_) (fun c22 => ?_)
      · rw [if_pos c22] at hf
        refine es_l (pc' := 51) (ls' := [(3, .ref (w.2.1 + (102 + 2 * (S.1 406 x2.toNatClampNeg).toNatClampNeg))), (0, .ref (w.2.1 + 405)), (1, .int x1), (2, .int x2)]) (st' := [.ref (w.2.1 + (102 + 2 * (S.1 406 x2.toNatClampNeg).toNatClampNeg))]) (fun _ _ k => e_aload_n dX7_cursor_50 0 rfl k) ?_
        refine es_get (v := .int (S.1 (102 + 2 * (S.1 406 x2.toNatClampNeg).toNatClampNeg) 1)) xc_8 dX7_cursor_51 fl_X7_87 (by decide) (xStep_lt (xStep_at g21)) (cel_st (xStep_at g21) _ _ _) rfl ?_
        refine es_l (pc' := 55) (ls' := [(3, .ref (w.2.1 + (102 + 2 * (S.1 406 x2.toNatClampNeg).toNatClampNeg))), (0, .ref (w.2.1 + 405)), (1, .int x1), (2, .int x2)]) (st' := [.int x1, .int (S.1 (102 + 2 * (S.1 406 x2.toNatClampNeg).toNatClampNeg) 1)]) (fun _ _ k => e_iload_n dX7_cursor_54 2 rfl k) ?_
        refine es_br (c := (S.1 (102 + 2 * (S.1 406 x2.toNatClampNeg).toNatClampNeg) 1) = x1) (tgt := 58) (pf := 63) (st' := []) (fun _ _ a b => e_icmp_ne dX7_cursor_55 rfl b a) (fun c23 => ?_) (fun c23 => ?_)
        · rw [if_pos c23] at hf
          refine es_l (pc' := 59) (ls' := [(3, .ref (w.2.1 + (102 + 2 * (S.1 406 x2.toNatClampNeg).toNatClampNeg))), (0, .ref (w.2.1 + 405)), (1, .int x1), (2, .int x2)]) (st' := [.ref (w.2.1 + (102 + 2 * (S.1 406 x2.toNatClampNeg).toNatClampNeg))]) (fun _ _ k => e_aload_n dX7_cursor_58 0 rfl k) ?_
          refine es_get (v := .int (S.1 (102 + 2 * (S.1 406 x2.toNatClampNeg).toNatClampNeg) 3)) xc_8 dX7_cursor_59 fl_X7_89 (by decide) (xStep_lt (xStep_at g21)) (cel_st (xStep_at g21) _ _ _) rfl ?_
          exact es_ireturn (ty := .int) dX7_cursor_62 rfl rfl hf
        · rw [if_neg c23] at hf
          refine es_sub [1, 2, 3] rfl ?_
          exact t_X7_cursor_63 N (f_X7_cursor_22 N n) ih x1 x2 S r hf
      · rw [if_neg c22] at hf
        refine es_sub [1, 2, 3] rfl ?_
        exact t_X7_cursor_63 N (f_X7_cursor_22 N n) ih x1 x2 S r hf
def f_X7_cursor (N : Nat)  (S : xS) : Option xr :=
  xcJ (f_X9_name N S) (fun v25 S24 =>
  xcI (f_X3_kind N v25 S24) (fun v27 S26 =>
  f_X7_cursor_22 N N v27 ((S26.1 405 4) - 1) S26
  )
  )
set_option maxRecDepth 100000 in
set_option maxHeartbeats 4000000 in
theorem t_X7_cursor {l : Launch} {w : xW} {g : Nat → xE} (N : Nat)  (S : xS) (r : xr) (hf : f_X7_cursor N  S = some r) : ES l w g M_X7_cursor 0 (lv_args 0 [.ref (w.2.1 + 405)]) [] S r := by
  show ES l w g M_X7_cursor 0 [(0, .ref (w.2.1 + 405))] [] S r
  unfold f_X7_cursor at hf
  refine es_l (pc' := 1) (ls' := [(0, .ref (w.2.1 + 405))]) (st' := [.ref (w.2.1 + 405)]) (fun _ _ k => e_aload_n dX7_cursor_0 0 rfl k) ?_
  refine es_get (v := .ref (w.2.1 + 7)) xc_7 dX7_cursor_1 fl_X7_19 (by decide) (by decide) (cel_405 _ _ _) rfl ?_
  refine es_l (pc' := 5) (ls' := [(0, .ref (w.2.1 + 405))]) (st' := [.ref (w.2.1 + 405), .ref (w.2.1 + 7)]) (fun _ _ k => e_aload_n dX7_cursor_4 0 rfl k) ?_
  refine es_get (v := .ref (w.2.1 + 1)) xc_7 dX7_cursor_5 fl_X7_15 (by decide) (by decide) (cel_405 _ _ _) rfl ?_
  refine es_callVJ (as := []) (rest := [.ref (w.2.1 + 7)]) hf xc_9 dX7_cursor_8 cs_X7_cursor_X9_name ml_X7_56 im_X9_name se_X9_name rfl rfl (Nat.le_of_ble_eq_true rfl) (Nat.le_of_ble_eq_true rfl) (by decide) rfl (cel_1 _ _ _) (fun _ e => t_X9_name N  S _ e) (by decide) (fun v25 S24 hf => ?_)
  refine es_callVI (as := [.long v25]) (rest := []) hf xc_3 dX7_cursor_11 cs_X7_cursor_X3_kind ml_X7_60 im_X3_kind se_X3_kind rfl rfl (Nat.le_of_ble_eq_true rfl) (Nat.le_of_ble_eq_true rfl) (by decide) rfl (cel_7 _ _ _) (fun _ e => t_X3_kind N v25 S24 _ e) (by decide) (fun v27 S26 hf => ?_)
  refine es_l (pc' := 16) (ls' := [(1, .int v27), (0, .ref (w.2.1 + 405))]) (st' := [.ref (w.2.1 + 405)]) (fun _ _ k => e_istore_n (ls' := [(1, .int v27), (0, .ref (w.2.1 + 405))]) dX7_cursor_14 (by decide) rfl (e_aload_n dX7_cursor_15 1 rfl k)) ?_
  refine es_get (v := .int (S26.1 405 4)) xc_7 dX7_cursor_16 fl_X7_27 (by decide) (by decide) (cel_405 _ _ _) rfl ?_
  refine es_l (pc' := 22) (ls' := [(2, .int ((S26.1 405 4) - 1)), (1, .int v27), (0, .ref (w.2.1 + 405))]) (st' := []) (fun _ _ k => e_iconst (v := 1) dX7_cursor_19 (by decide) (e_isub dX7_cursor_20 (e_istore_n (ls' := [(2, .int ((S26.1 405 4) - 1)), (1, .int v27), (0, .ref (w.2.1 + 405))]) dX7_cursor_21 (by decide) rfl k))) ?_
  refine es_sub [2, 1, 0] rfl ?_
  exact t_X7_cursor_22 N N v27 ((S26.1 405 4) - 1) S26 r hf
def f_X7_takeKind (N : Nat)  (S : xS) : Option xr :=
  xcJ (f_X9_name N S) (fun v9 S8 =>
  xcI (f_X3_kind N v9 S8) (fun v11 S10 =>
  if v11 = 0 then
    some (.inr "java/lang/IllegalArgumentException", sE S10)
  else
    xcV (f_X9_pass N S10) (fun S13 =>
    some (.inl (some (.inl v11)), S13)
    )
  )
  )
set_option maxRecDepth 100000 in
set_option maxHeartbeats 4000000 in
theorem t_X7_takeKind {l : Launch} {w : xW} {g : Nat → xE} (N : Nat)  (S : xS) (r : xr) (hf : f_X7_takeKind N  S = some r) : ES l w g M_X7_takeKind 0 (lv_args 0 [.ref (w.2.1 + 405)]) [] S r := by
  show ES l w g M_X7_takeKind 0 [(0, .ref (w.2.1 + 405))] [] S r
  unfold f_X7_takeKind at hf
  refine es_l (pc' := 1) (ls' := [(0, .ref (w.2.1 + 405))]) (st' := [.ref (w.2.1 + 405)]) (fun _ _ k => e_aload_n dX7_takeKind_0 0 rfl k) ?_
  refine es_get (v := .ref (w.2.1 + 7)) xc_7 dX7_takeKind_1 fl_X7_19 (by decide) (by decide) (cel_405 _ _ _) rfl ?_
  refine es_l (pc' := 5) (ls' := [(0, .ref (w.2.1 + 405))]) (st' := [.ref (w.2.1 + 405), .ref (w.2.1 + 7)]) (fun _ _ k => e_aload_n dX7_takeKind_4 0 rfl k) ?_
  refine es_get (v := .ref (w.2.1 + 1)) xc_7 dX7_takeKind_5 fl_X7_15 (by decide) (by decide) (cel_405 _ _ _) rfl ?_
  refine es_callVJ (as := []) (rest := [.ref (w.2.1 + 7)]) hf xc_9 dX7_takeKind_8 cs_X7_takeKind_X9_name ml_X7_56 im_X9_name se_X9_name rfl rfl (Nat.le_of_ble_eq_true rfl) (Nat.le_of_ble_eq_true rfl) (by decide) rfl (cel_1 _ _ _) (fun _ e => t_X9_name N  S _ e) (by decide) (fun v9 S8 hf => ?_)
  refine es_callVI (as := [.long v9]) (rest := []) hf xc_3 dX7_takeKind_11 cs_X7_takeKind_X3_kind ml_X7_60 im_X3_kind se_X3_kind rfl rfl (Nat.le_of_ble_eq_true rfl) (Nat.le_of_ble_eq_true rfl) (by decide) rfl (cel_7 _ _ _) (fun _ e => t_X3_kind N v9 S8 _ e) (by decide) (fun v11 S10 hf => ?_)
  refine es_l (pc' := 16) (ls' := [(1, .int v11), (0, .ref (w.2.1 + 405))]) (st' := [.int v11]) (fun _ _ k => e_istore_n (ls' := [(1, .int v11), (0, .ref (w.2.1 + 405))]) dX7_takeKind_14 (by decide) rfl (e_iload_n dX7_takeKind_15 0 rfl k)) ?_
  refine es_br (c := v11 = 0) (tgt := 19) (pf := 27) (st' := []) (fun _ _ a b => e_if_ne dX7_takeKind_16 rfl b a) (fun c12 => ?_) (fun c12 => ?_)
  · rw [if_pos c12] at hf
    exact es_throw (names := ["java/lang/RuntimeException", "java/lang/Exception"]) (by decide +kernel) (by decide +kernel) th_k_X7_40 th_i_IllegalArgumentException th_a_X7_40 th_g_X7_40 dX7_takeKind_19 dX7_takeKind_22 dX7_takeKind_23 dX7_takeKind_26 (by decide) (by decide) (by decide) hf
  · rw [if_neg c12] at hf
    refine es_l (pc' := 28) (ls' := [(1, .int v11), (0, .ref (w.2.1 + 405))]) (st' := [.ref (w.2.1 + 405)]) (fun _ _ k => e_aload_n dX7_takeKind_27 1 rfl k) ?_
    refine es_get (v := .ref (w.2.1 + 1)) xc_7 dX7_takeKind_28 fl_X7_15 (by decide) (by decide) (cel_405 _ _ _) rfl ?_
    refine es_callVV (as := []) (rest := []) hf xc_9 dX7_takeKind_31 cs_X7_takeKind_X9_pass ml_X7_43 im_X9_pass se_X9_pass rfl rfl (Nat.le_of_ble_eq_true rfl) (Nat.le_of_ble_eq_true rfl) (by decide) rfl (cel_1 _ _ _) (fun _ e => t_X9_pass N  S10 _ e) (by decide) (fun S13 hf => ?_)
    refine es_l (pc' := 35) (ls' := [(1, .int v11), (0, .ref (w.2.1 + 405))]) (st' := [.int v11]) (fun _ _ k => e_iload_n dX7_takeKind_34 0 rfl k) ?_
    exact es_ireturn (ty := .int) dX7_takeKind_35 rfl rfl hf
def f_X7_takeField (N : Nat) (x1 : Int32) (S : xS) : Option xr :=
  xcJ (f_X9_name N S) (fun v9 S8 =>
  xcI (f_X3_field N x1 v9 S8) (fun v11 S10 =>
  if v11 = ((-1)) then
    some (.inr "java/lang/IllegalArgumentException", sE S10)
  else
    xcV (f_X9_pass N S10) (fun S13 =>
    some (.inl (some (.inl v11)), S13)
    )
  )
  )
set_option maxRecDepth 100000 in
set_option maxHeartbeats 4000000 in
theorem t_X7_takeField {l : Launch} {w : xW} {g : Nat → xE} (N : Nat) (x1 : Int32) (S : xS) (r : xr) (hf : f_X7_takeField N x1 S = some r) : ES l w g M_X7_takeField 0 (lv_args 0 [.ref (w.2.1 + 405), .int x1]) [] S r := by
  show ES l w g M_X7_takeField 0 [(0, .ref (w.2.1 + 405)), (1, .int x1)] [] S r
  unfold f_X7_takeField at hf
  refine es_l (pc' := 1) (ls' := [(0, .ref (w.2.1 + 405)), (1, .int x1)]) (st' := [.ref (w.2.1 + 405)]) (fun _ _ k => e_aload_n dX7_takeField_0 0 rfl k) ?_
  refine es_get (v := .ref (w.2.1 + 7)) xc_7 dX7_takeField_1 fl_X7_19 (by decide) (by decide) (cel_405 _ _ _) rfl ?_
  refine es_l (pc' := 6) (ls' := [(0, .ref (w.2.1 + 405)), (1, .int x1)]) (st' := [.ref (w.2.1 + 405), .int x1, .ref (w.2.1 + 7)]) (fun _ _ k => e_iload_n dX7_takeField_4 1 rfl (e_aload_n dX7_takeField_5 0 rfl k)) ?_
  refine es_get (v := .ref (w.2.1 + 1)) xc_7 dX7_takeField_6 fl_X7_15 (by decide) (by decide) (cel_405 _ _ _) rfl ?_
  refine es_callVJ (as := []) (rest := [.int x1, .ref (w.2.1 + 7)]) hf xc_9 dX7_takeField_9 cs_X7_takeField_X9_name ml_X7_56 im_X9_name se_X9_name rfl rfl (Nat.le_of_ble_eq_true rfl) (Nat.le_of_ble_eq_true rfl) (by decide) rfl (cel_1 _ _ _) (fun _ e => t_X9_name N  S _ e) (by decide) (fun v9 S8 hf => ?_)
  refine es_callVI (as := [.int x1, .long v9]) (rest := []) hf xc_3 dX7_takeField_12 cs_X7_takeField_X3_field ml_X7_66 im_X3_field se_X3_field rfl rfl (Nat.le_of_ble_eq_true rfl) (Nat.le_of_ble_eq_true rfl) (by decide) rfl (cel_7 _ _ _) (fun _ e => t_X3_field N x1 v9 S8 _ e) (by decide) (fun v11 S10 hf => ?_)
  refine es_l (pc' := 18) (ls' := [(2, .int v11), (0, .ref (w.2.1 + 405)), (1, .int x1)]) (st' := [.int ((-1)), .int v11]) (fun _ _ k => e_istore_n (ls' := [(2, .int v11), (0, .ref (w.2.1 + 405)), (1, .int x1)]) dX7_takeField_15 (by decide) rfl (e_iload_n dX7_takeField_16 0 rfl (e_iconst (v := (-1)) dX7_takeField_17 (by decide) k))) ?_
  refine es_br (c := v11 = ((-1))) (tgt := 21) (pf := 29) (st' := []) (fun _ _ a b => e_icmp_ne dX7_takeField_18 rfl b a) (fun c12 => ?_) (fun c12 => ?_)
  · rw [if_pos c12] at hf
    exact es_throw (names := ["java/lang/RuntimeException", "java/lang/Exception"]) (by decide +kernel) (by decide +kernel) th_k_X7_40 th_i_IllegalArgumentException th_a_X7_40 th_g_X7_40 dX7_takeField_21 dX7_takeField_24 dX7_takeField_25 dX7_takeField_28 (by decide) (by decide) (by decide) hf
  · rw [if_neg c12] at hf
    refine es_l (pc' := 30) (ls' := [(2, .int v11), (0, .ref (w.2.1 + 405)), (1, .int x1)]) (st' := [.ref (w.2.1 + 405)]) (fun _ _ k => e_aload_n dX7_takeField_29 1 rfl k) ?_
    refine es_get (v := .ref (w.2.1 + 1)) xc_7 dX7_takeField_30 fl_X7_15 (by decide) (by decide) (cel_405 _ _ _) rfl ?_
    refine es_callVV (as := []) (rest := []) hf xc_9 dX7_takeField_33 cs_X7_takeField_X9_pass ml_X7_43 im_X9_pass se_X9_pass rfl rfl (Nat.le_of_ble_eq_true rfl) (Nat.le_of_ble_eq_true rfl) (by decide) rfl (cel_1 _ _ _) (fun _ e => t_X9_pass N  S10 _ e) (by decide) (fun S13 hf => ?_)
    refine es_l (pc' := 37) (ls' := [(2, .int v11), (0, .ref (w.2.1 + 405)), (1, .int x1)]) (st' := [.int v11]) (fun _ _ k => e_iload_n dX7_takeField_36 0 rfl k) ?_
    exact es_ireturn (ty := .int) dX7_takeField_37 rfl rfl hf
def f_X3_variable_2 (N : Nat)  : Nat → Int64 → Int32 → xS → Option xr
  | 0, _, _, _ => none
  | n + 1, y1, x3, S =>
  if (S.1 7 6) ≤ x3 then
    some (.inl (some (.inl ((-1)))), S)
  else
    if xin x3 20 then
    if (lg_cmp (S.2.1 28 x3.toNatClampNeg) y1) = 0 then
      some (.inl (some (.inl x3)), S)
    else
      f_X3_variable_2 N n y1 (x3 + 1) S
    else none
set_option maxRecDepth 100000 in
set_option maxHeartbeats 4000000 in
theorem t_X3_variable_2 {l : Launch} {w : xW} {g : Nat → xE} (N : Nat)   : ∀ (n : Nat) (y1 : Int64) (x3 : Int32) (S : xS) (r : xr), f_X3_variable_2 N  n y1 x3 S = some r → ES l w g M_X3_variable 2 [(0, .ref (w.2.1 + 7)), (1, .long y1), (3, .int x3)] [] S r := by
  intro n
  induction n with
  | zero => intro y1 x3 S r hf; cases hf
  | succ n ih =>
    intro y1 x3 S r hf
    rw [f_X3_variable_2.eq_2] at hf
    refine es_l (pc' := 4) (ls' := [(0, .ref (w.2.1 + 7)), (1, .long y1), (3, .int x3)]) (st' := [.ref (w.2.1 + 7), .int x3]) (fun _ _ k => e_iload_n dX3_variable_2 2 rfl (e_aload_n dX3_variable_3 0 rfl k)) ?_
    refine es_get (v := .int (S.1 7 6)) xc_3 dX3_variable_4 fl_X3_39 (by decide) (by decide) (cel_7 _ _ _) rfl ?_
    refine es_br (c := (S.1 7 6) ≤ x3) (tgt := 29) (pf := 10) (st' := []) (fun _ _ a b => e_icmp_ge dX3_variable_7 rfl a b) (fun c7 => ?_) (fun c7 => ?_)
    · rw [if_pos c7] at hf
      refine es_l (pc' := 30) (ls' := [(0, .ref (w.2.1 + 7)), (1, .long y1), (3, .int x3)]) (st' := [.int ((-1))]) (fun _ _ k => e_iconst (v := (-1)) dX3_variable_29 (by decide) k) ?_
      exact es_ireturn (ty := .int) dX3_variable_30 rfl rfl hf
    · rw [if_neg c7] at hf
      refine es_l (pc' := 11) (ls' := [(0, .ref (w.2.1 + 7)), (1, .long y1), (3, .int x3)]) (st' := [.ref (w.2.1 + 7)]) (fun _ _ k => e_aload_n dX3_variable_10 0 rfl k) ?_
      refine es_get (v := .ref (w.2.1 + 28)) xc_3 dX3_variable_11 fl_X3_29 (by decide) (by decide) (cel_7 _ _ _) rfl ?_
      refine es_l (pc' := 15) (ls' := [(0, .ref (w.2.1 + 7)), (1, .long y1), (3, .int x3)]) (st' := [.int x3, .ref (w.2.1 + 28)]) (fun _ _ k => e_iload_n dX3_variable_14 2 rfl k) ?_
      obtain ⟨g8, hf⟩ := xg hf
      refine es_lald (v := .long (S.2.1 28 x3.toNatClampNeg)) dX3_variable_15 (by decide) (cel_28 _ _ _) g8 rfl ?_
      refine es_l (pc' := 18) (ls' := [(0, .ref (w.2.1 + 7)), (1, .long y1), (3, .int x3)]) (st' := [.int (lg_cmp (S.2.1 28 x3.toNatClampNeg) y1)]) (fun _ _ k => e_lload_n dX3_variable_16 1 rfl (e_lcmp dX3_variable_17 k)) ?_
      refine es_br (c := (lg_cmp (S.2.1 28 x3.toNatClampNeg) y1) = 0) (tgt := 21) (pf := 23) (st' := []) (fun _ _ a b => e_if_ne dX3_variable_18 rfl b a) (fun c9 => ?_) (fun c9 => ?_)
      · rw [if_pos c9] at hf
        refine es_l (pc' := 22) (ls' := [(0, .ref (w.2.1 + 7)), (1, .long y1), (3, .int x3)]) (st' := [.int x3]) (fun _ _ k => e_iload_n dX3_variable_21 2 rfl k) ?_
        exact es_ireturn (ty := .int) dX3_variable_22 rfl rfl hf
      · rw [if_neg c9] at hf
        refine es_l (pc' := 2) (ls' := [(3, .int (x3 + 1)), (0, .ref (w.2.1 + 7)), (1, .long y1)]) (st' := []) (fun _ _ k => e_iinc (v := x3 + 1) (ls' := [(3, .int (x3 + 1)), (0, .ref (w.2.1 + 7)), (1, .long y1)]) dX3_variable_23 2 rfl rfl (by decide) rfl (e_goto (tgt := 2) dX3_variable_26 rfl k)) ?_
        refine es_sub [1, 2, 0] rfl ?_
        exact ih y1 (x3 + 1) S r hf
def f_X3_variable (N : Nat) (y1 : Int64) (S : xS) : Option xr :=
  f_X3_variable_2 N N y1 0 S
set_option maxRecDepth 100000 in
set_option maxHeartbeats 4000000 in
theorem t_X3_variable {l : Launch} {w : xW} {g : Nat → xE} (N : Nat) (y1 : Int64) (S : xS) (r : xr) (hf : f_X3_variable N y1 S = some r) : ES l w g M_X3_variable 0 (lv_args 0 [.ref (w.2.1 + 7), .long y1]) [] S r := by
  show ES l w g M_X3_variable 0 [(0, .ref (w.2.1 + 7)), (1, .long y1)] [] S r
  unfold f_X3_variable at hf
  refine es_l (pc' := 2) (ls' := [(3, .int 0), (0, .ref (w.2.1 + 7)), (1, .long y1)]) (st' := []) (fun _ _ k => e_iconst (v := 0) dX3_variable_0 (by decide) (e_istore_n (ls' := [(3, .int 0), (0, .ref (w.2.1 + 7)), (1, .long y1)]) dX3_variable_1 (by decide) rfl k)) ?_
  refine es_sub [1, 2, 0] rfl ?_
  exact t_X3_variable_2 N N y1 0 S r hf
def f_X3_addVariable (N : Nat) (y1 : Int64) (S : xS) : Option xr :=
  if (S.1 7 6) = 20 then
    some (.inl (some (.inl ((-1)))), S)
  else
    if xin (S.1 7 6) 20 then
    some (.inl (some (.inl (((S.1 7 6) + 1) - 1))), sI (sJ S 28 ((S.1 7 6).toNatClampNeg) y1) 7 6 ((S.1 7 6) + 1))
    else none
set_option maxRecDepth 100000 in
set_option maxHeartbeats 4000000 in
theorem t_X3_addVariable {l : Launch} {w : xW} {g : Nat → xE} (N : Nat) (y1 : Int64) (S : xS) (r : xr) (hf : f_X3_addVariable N y1 S = some r) : ES l w g M_X3_addVariable 0 (lv_args 0 [.ref (w.2.1 + 7), .long y1]) [] S r := by
  show ES l w g M_X3_addVariable 0 [(0, .ref (w.2.1 + 7)), (1, .long y1)] [] S r
  unfold f_X3_addVariable at hf
  refine es_l (pc' := 1) (ls' := [(0, .ref (w.2.1 + 7)), (1, .long y1)]) (st' := [.ref (w.2.1 + 7)]) (fun _ _ k => e_aload_n dX3_addVariable_0 0 rfl k) ?_
  refine es_get (v := .int (S.1 7 6)) xc_3 dX3_addVariable_1 fl_X3_39 (by decide) (by decide) (cel_7 _ _ _) rfl ?_
  refine es_l (pc' := 6) (ls' := [(0, .ref (w.2.1 + 7)), (1, .long y1)]) (st' := [.int 20, .int (S.1 7 6)]) (fun _ _ k => e_bipush (v := 20) dX3_addVariable_4 (by decide) k) ?_
  refine es_br (c := (S.1 7 6) = 20) (tgt := 9) (pf := 11) (st' := []) (fun _ _ a b => e_icmp_ne dX3_addVariable_6 rfl b a) (fun c3 => ?_) (fun c3 => ?_)
  · rw [if_pos c3] at hf
    refine es_l (pc' := 10) (ls' := [(0, .ref (w.2.1 + 7)), (1, .long y1)]) (st' := [.int ((-1))]) (fun _ _ k => e_iconst (v := (-1)) dX3_addVariable_9 (by decide) k) ?_
    exact es_ireturn (ty := .int) dX3_addVariable_10 rfl rfl hf
  · rw [if_neg c3] at hf
    refine es_l (pc' := 12) (ls' := [(0, .ref (w.2.1 + 7)), (1, .long y1)]) (st' := [.ref (w.2.1 + 7)]) (fun _ _ k => e_aload_n dX3_addVariable_11 0 rfl k) ?_
    refine es_get (v := .ref (w.2.1 + 28)) xc_3 dX3_addVariable_12 fl_X3_29 (by decide) (by decide) (cel_7 _ _ _) rfl ?_
    refine es_l (pc' := 16) (ls' := [(0, .ref (w.2.1 + 7)), (1, .long y1)]) (st' := [.ref (w.2.1 + 7), .ref (w.2.1 + 28)]) (fun _ _ k => e_aload_n dX3_addVariable_15 0 rfl k) ?_
    refine es_get (v := .int (S.1 7 6)) xc_3 dX3_addVariable_16 fl_X3_39 (by decide) (by decide) (cel_7 _ _ _) rfl ?_
    refine es_l (pc' := 20) (ls' := [(0, .ref (w.2.1 + 7)), (1, .long y1)]) (st' := [.long y1, .int (S.1 7 6), .ref (w.2.1 + 28)]) (fun _ _ k => e_lload_n dX3_addVariable_19 1 rfl k) ?_
    obtain ⟨g4, hf⟩ := xg hf
    refine es_last dX3_addVariable_20 (by decide) (cel_28 _) g4 ?_
    refine es_l (pc' := 23) (ls' := [(0, .ref (w.2.1 + 7)), (1, .long y1)]) (st' := [.ref (w.2.1 + 7), .ref (w.2.1 + 7)]) (fun _ _ k => e_aload_n dX3_addVariable_21 0 rfl (e_dup dX3_addVariable_22 rfl k)) ?_
    refine es_get (v := .int (S.1 7 6)) xc_3 dX3_addVariable_23 fl_X3_39 (by decide) (by decide) (cel_7 _ _ _) rfl ?_
    refine es_l (pc' := 28) (ls' := [(0, .ref (w.2.1 + 7)), (1, .long y1)]) (st' := [.int ((S.1 7 6) + 1), .ref (w.2.1 + 7)]) (fun _ _ k => e_iconst (v := 1) dX3_addVariable_26 (by decide) (e_iadd dX3_addVariable_27 k)) ?_
    refine es_put xc_3 dX3_addVariable_28 fl_X3_39 (by decide) (by decide) (by decide) (cel_7 _ _ _) rfl rfl rfl rfl ?_
    refine es_l (pc' := 32) (ls' := [(0, .ref (w.2.1 + 7)), (1, .long y1)]) (st' := [.ref (w.2.1 + 7)]) (fun _ _ k => e_aload_n dX3_addVariable_31 0 rfl k) ?_
    refine es_get (v := .int ((S.1 7 6) + 1)) xc_3 dX3_addVariable_32 fl_X3_39 (by decide) (by decide) (cel_7 _ _ _) rfl ?_
    refine es_l (pc' := 37) (ls' := [(0, .ref (w.2.1 + 7)), (1, .long y1)]) (st' := [.int (((S.1 7 6) + 1) - 1)]) (fun _ _ k => e_iconst (v := 1) dX3_addVariable_35 (by decide) (e_isub dX3_addVariable_36 k)) ?_
    exact es_ireturn (ty := .int) dX3_addVariable_37 rfl rfl hf
def f_X7_takeVariable_25 (N : Nat)   (S : xS) : Option xr :=
  some (.inr "java/lang/IllegalArgumentException", sE S)
set_option maxRecDepth 100000 in
set_option maxHeartbeats 4000000 in
theorem t_X7_takeVariable_25 {l : Launch} {w : xW} {g : Nat → xE} (N : Nat)    (S : xS) (r : xr) (hf : f_X7_takeVariable_25 N   S = some r) : ES l w g M_X7_takeVariable 25 [] [] S r := by
  unfold f_X7_takeVariable_25 at hf
  exact es_throw (names := ["java/lang/RuntimeException", "java/lang/Exception"]) (by decide +kernel) (by decide +kernel) th_k_X7_40 th_i_IllegalArgumentException th_a_X7_40 th_g_X7_40 dX7_takeVariable_25 dX7_takeVariable_28 dX7_takeVariable_29 dX7_takeVariable_32 (by decide) (by decide) (by decide) hf
def f_X7_takeVariable_56 (N : Nat)  (x3 : Int32) (S : xS) : Option xr :=
  if x3 = ((-1)) then
    some (.inr "java/lang/IllegalArgumentException", sE S)
  else
    xcV (f_X9_pass N S) (fun S30 =>
    some (.inl (some (.inl x3)), S30)
    )
set_option maxRecDepth 100000 in
set_option maxHeartbeats 4000000 in
theorem t_X7_takeVariable_56 {l : Launch} {w : xW} {g : Nat → xE} (N : Nat)   (x3 : Int32) (S : xS) (r : xr) (hf : f_X7_takeVariable_56 N  x3 S = some r) : ES l w g M_X7_takeVariable 56 [(0, .ref (w.2.1 + 405)), (3, .int x3)] [] S r := by
  unfold f_X7_takeVariable_56 at hf
  refine es_l (pc' := 58) (ls' := [(0, .ref (w.2.1 + 405)), (3, .int x3)]) (st' := [.int ((-1)), .int x3]) (fun _ _ k => e_iload_n dX7_takeVariable_56 1 rfl (e_iconst (v := (-1)) dX7_takeVariable_57 (by decide) k)) ?_
  refine es_br (c := x3 = ((-1))) (tgt := 61) (pf := 69) (st' := []) (fun _ _ a b => e_icmp_ne dX7_takeVariable_58 rfl b a) (fun c29 => ?_) (fun c29 => ?_)
  · rw [if_pos c29] at hf
    exact es_throw (names := ["java/lang/RuntimeException", "java/lang/Exception"]) (by decide +kernel) (by decide +kernel) th_k_X7_40 th_i_IllegalArgumentException th_a_X7_40 th_g_X7_40 dX7_takeVariable_61 dX7_takeVariable_64 dX7_takeVariable_65 dX7_takeVariable_68 (by decide) (by decide) (by decide) hf
  · rw [if_neg c29] at hf
    refine es_l (pc' := 70) (ls' := [(0, .ref (w.2.1 + 405)), (3, .int x3)]) (st' := [.ref (w.2.1 + 405)]) (fun _ _ k => e_aload_n dX7_takeVariable_69 0 rfl k) ?_
    refine es_get (v := .ref (w.2.1 + 1)) xc_7 dX7_takeVariable_70 fl_X7_15 (by decide) (by decide) (cel_405 _ _ _) rfl ?_
    refine es_callVV (as := []) (rest := []) hf xc_9 dX7_takeVariable_73 cs_X7_takeVariable_X9_pass ml_X7_43 im_X9_pass se_X9_pass rfl rfl (Nat.le_of_ble_eq_true rfl) (Nat.le_of_ble_eq_true rfl) (by decide) rfl (cel_1 _ _ _) (fun _ e => t_X9_pass N  S _ e) (by decide) (fun S30 hf => ?_)
    refine es_l (pc' := 77) (ls' := [(0, .ref (w.2.1 + 405)), (3, .int x3)]) (st' := [.int x3]) (fun _ _ k => e_iload_n dX7_takeVariable_76 1 rfl k) ?_
    exact es_ireturn (ty := .int) dX7_takeVariable_77 rfl rfl hf
def f_X7_takeVariable (N : Nat)  (S : xS) : Option xr :=
  xcJ (f_X9_name N S) (fun v33 S32 =>
  if (lg_cmp v33 0) = 0 then
    f_X7_takeVariable_25 N S32
  else
    xcI (f_X3_kind N v33 S32) (fun v36 S35 =>
    if v36 = 0 then
      xcI (f_X3_variable N v33 S35) (fun v39 S38 =>
      if v39 = ((-1)) then
        xcI (f_X3_addVariable N v33 S38) (fun v42 S41 =>
        f_X7_takeVariable_56 N v42 S41
        )
      else
        f_X7_takeVariable_56 N v39 S38
      )
    else
      f_X7_takeVariable_25 N S35
    )
  )
set_option maxRecDepth 100000 in
set_option maxHeartbeats 4000000 in
theorem t_X7_takeVariable {l : Launch} {w : xW} {g : Nat → xE} (N : Nat)  (S : xS) (r : xr) (hf : f_X7_takeVariable N  S = some r) : ES l w g M_X7_takeVariable 0 (lv_args 0 [.ref (w.2.1 + 405)]) [] S r := by
  show ES l w g M_X7_takeVariable 0 [(0, .ref (w.2.1 + 405))] [] S r
  unfold f_X7_takeVariable at hf
  refine es_l (pc' := 1) (ls' := [(0, .ref (w.2.1 + 405))]) (st' := [.ref (w.2.1 + 405)]) (fun _ _ k => e_aload_n dX7_takeVariable_0 0 rfl k) ?_
  refine es_get (v := .ref (w.2.1 + 1)) xc_7 dX7_takeVariable_1 fl_X7_15 (by decide) (by decide) (cel_405 _ _ _) rfl ?_
  refine es_callVJ (as := []) (rest := []) hf xc_9 dX7_takeVariable_4 cs_X7_takeVariable_X9_name ml_X7_56 im_X9_name se_X9_name rfl rfl (Nat.le_of_ble_eq_true rfl) (Nat.le_of_ble_eq_true rfl) (by decide) rfl (cel_1 _ _ _) (fun _ e => t_X9_name N  S _ e) (by decide) (fun v33 S32 hf => ?_)
  refine es_l (pc' := 11) (ls' := [(1, .long v33), (0, .ref (w.2.1 + 405))]) (st' := [.int (lg_cmp v33 0)]) (fun _ _ k => e_lstore_n (ls' := [(1, .long v33), (0, .ref (w.2.1 + 405))]) dX7_takeVariable_7 (by decide) rfl (e_lload_n dX7_takeVariable_8 0 rfl (e_lconst (v := 0) dX7_takeVariable_9 (by decide) (e_lcmp dX7_takeVariable_10 k)))) ?_
  refine es_br (c := (lg_cmp v33 0) = 0) (tgt := 25) (pf := 14) (st' := []) (fun _ _ a b => e_if_eq dX7_takeVariable_11 rfl a b) (fun c34 => ?_) (fun c34 => ?_)
  · rw [if_pos c34] at hf
    refine es_sub [] rfl ?_
    exact t_X7_takeVariable_25 N S32 r hf
  · rw [if_neg c34] at hf
    refine es_l (pc' := 15) (ls' := [(1, .long v33), (0, .ref (w.2.1 + 405))]) (st' := [.ref (w.2.1 + 405)]) (fun _ _ k => e_aload_n dX7_takeVariable_14 1 rfl k) ?_
    refine es_get (v := .ref (w.2.1 + 7)) xc_7 dX7_takeVariable_15 fl_X7_19 (by decide) (by decide) (cel_405 _ _ _) rfl ?_
    refine es_l (pc' := 19) (ls' := [(1, .long v33), (0, .ref (w.2.1 + 405))]) (st' := [.long v33, .ref (w.2.1 + 7)]) (fun _ _ k => e_lload_n dX7_takeVariable_18 0 rfl k) ?_
    refine es_callVI (as := [.long v33]) (rest := []) hf xc_3 dX7_takeVariable_19 cs_X7_takeVariable_X3_kind ml_X7_60 im_X3_kind se_X3_kind rfl rfl (Nat.le_of_ble_eq_true rfl) (Nat.le_of_ble_eq_true rfl) (by decide) rfl (cel_7 _ _ _) (fun _ e => t_X3_kind N v33 S32 _ e) (by decide) (fun v36 S35 hf => ?_)
    refine es_br (c := v36 = 0) (tgt := 33) (pf := 25) (st' := []) (fun _ _ a b => e_if_eq dX7_takeVariable_22 rfl a b) (fun c37 => ?_) (fun c37 => ?_)
    · rw [if_pos c37] at hf
      refine es_l (pc' := 34) (ls' := [(1, .long v33), (0, .ref (w.2.1 + 405))]) (st' := [.ref (w.2.1 + 405)]) (fun _ _ k => e_aload_n dX7_takeVariable_33 1 rfl k) ?_
      refine es_get (v := .ref (w.2.1 + 7)) xc_7 dX7_takeVariable_34 fl_X7_19 (by decide) (by decide) (cel_405 _ _ _) rfl ?_
      refine es_l (pc' := 38) (ls' := [(1, .long v33), (0, .ref (w.2.1 + 405))]) (st' := [.long v33, .ref (w.2.1 + 7)]) (fun _ _ k => e_lload_n dX7_takeVariable_37 0 rfl k) ?_
      refine es_callVI (as := [.long v33]) (rest := []) hf xc_3 dX7_takeVariable_38 cs_X7_takeVariable_X3_variable ml_X7_70 im_X3_variable se_X3_variable rfl rfl (Nat.le_of_ble_eq_true rfl) (Nat.le_of_ble_eq_true rfl) (by decide) rfl (cel_7 _ _ _) (fun _ e => t_X3_variable N v33 S35 _ e) (by decide) (fun v39 S38 hf => ?_)
      refine es_l (pc' := 44) (ls' := [(3, .int v39), (1, .long v33), (0, .ref (w.2.1 + 405))]) (st' := [.int ((-1)), .int v39]) (fun _ _ k => e_istore_n (ls' := [(3, .int v39), (1, .long v33), (0, .ref (w.2.1 + 405))]) dX7_takeVariable_41 (by decide) rfl (e_iload_n dX7_takeVariable_42 0 rfl (e_iconst (v := (-1)) dX7_takeVariable_43 (by decide) k))) ?_
      refine es_br (c := v39 = ((-1))) (tgt := 47) (pf := 56) (st' := []) (fun _ _ a b => e_icmp_ne dX7_takeVariable_44 rfl b a) (fun c40 => ?_) (fun c40 => ?_)
      · rw [if_pos c40] at hf
        refine es_l (pc' := 48) (ls' := [(3, .int v39), (1, .long v33), (0, .ref (w.2.1 + 405))]) (st' := [.ref (w.2.1 + 405)]) (fun _ _ k => e_aload_n dX7_takeVariable_47 2 rfl k) ?_
        refine es_get (v := .ref (w.2.1 + 7)) xc_7 dX7_takeVariable_48 fl_X7_19 (by decide) (by decide) (cel_405 _ _ _) rfl ?_
        refine es_l (pc' := 52) (ls' := [(3, .int v39), (1, .long v33), (0, .ref (w.2.1 + 405))]) (st' := [.long v33, .ref (w.2.1 + 7)]) (fun _ _ k => e_lload_n dX7_takeVariable_51 1 rfl k) ?_
        refine es_callVI (as := [.long v33]) (rest := []) hf xc_3 dX7_takeVariable_52 cs_X7_takeVariable_X3_addVariable ml_X7_73 im_X3_addVariable se_X3_addVariable rfl rfl (Nat.le_of_ble_eq_true rfl) (Nat.le_of_ble_eq_true rfl) (by decide) rfl (cel_7 _ _ _) (fun _ e => t_X3_addVariable N v33 S38 _ e) (by decide) (fun v42 S41 hf => ?_)
        refine es_l (pc' := 56) (ls' := [(3, .int v42), (1, .long v33), (0, .ref (w.2.1 + 405))]) (st' := []) (fun _ _ k => e_istore_n (ls' := [(3, .int v42), (1, .long v33), (0, .ref (w.2.1 + 405))]) dX7_takeVariable_55 (by decide) rfl k) ?_
        refine es_sub [2, 0] rfl ?_
        exact t_X7_takeVariable_56 N v42 S41 r hf
      · rw [if_neg c40] at hf
        refine es_sub [2, 0] rfl ?_
        exact t_X7_takeVariable_56 N v39 S38 r hf
    · rw [if_neg c37] at hf
      refine es_sub [] rfl ?_
      exact t_X7_takeVariable_25 N S35 r hf
def f_X1_named_147 (N : Nat)   (S : xS) : Option xr :=
  some (.inl none, S)
set_option maxRecDepth 100000 in
set_option maxHeartbeats 4000000 in
theorem t_X1_named_147 {l : Launch} {w : xW} {g : Nat → xE} (N : Nat)    (S : xS) (r : xr) (hf : f_X1_named_147 N   S = some r) : ES l w g M_X1_named 147 [] [] S r := by
  unfold f_X1_named_147 at hf
  exact es_return dX1_named_147 rfl hf
def f_X1_named_29 (N : Nat)  (s0 : Int32) (S : xS) : Option xr :=
  if s0 = ((-1)) then
    xcJ (f_X9_name N S) (fun v67 S66 =>
    xcI (f_X3_kind N v67 S66) (fun v69 S68 =>
    if v69 = 0 then
      xcR (f_X5_addPart N 45 S68) (fun v72 S71 =>
      xcI (f_X7_takeVariable N S71) (fun v74 S73 =>
      if xPart v72 then
      f_X1_named_147 N (sI S73 v72 1 v74)
      else none
      )
      )
    else
      xcR (f_X5_addPart N 47 S68) (fun v77 S76 =>
      xcI (f_X7_cursor N S76) (fun v79 S78 =>
      if xPart v77 then
      xcI (f_X7_takeKind N (sI S78 v77 4 v79)) (fun v82 S81 =>
      xcV (f_X9_take N 36 S81) (fun S83 =>
      xcI (f_X7_takeField N v82 S83) (fun v86 S85 =>
      f_X1_named_147 N (sI S85 v77 3 v86)
      )
      )
      )
      else none
      )
      )
    )
    )
  else
    xcR (f_X5_addPart N 46 S) (fun v88 S87 =>
    if xPart v88 then
    xcV (f_X9_pass N (sI S87 v88 3 s0)) (fun S90 =>
    f_X1_named_147 N S90
    )
    else none
    )
set_option maxRecDepth 100000 in
set_option maxHeartbeats 4000000 in
theorem t_X1_named_29 {l : Launch} {w : xW} {g : Nat → xE} (N : Nat)   (s0 : Int32) (S : xS) (r : xr) (hf : f_X1_named_29 N  s0 S = some r) : ES l w g M_X1_named 29 [(0, .ref (w.2.1 + 407))] [.int s0] S r := by
  unfold f_X1_named_29 at hf
  refine es_l (pc' := 32) (ls' := [(1, .int s0), (0, .ref (w.2.1 + 407))]) (st' := [.int ((-1)), .int s0]) (fun _ _ k => e_istore_n (ls' := [(1, .int s0), (0, .ref (w.2.1 + 407))]) dX1_named_29 (by decide) rfl (e_iload_n dX1_named_30 0 rfl (e_iconst (v := (-1)) dX1_named_31 (by decide) k))) ?_
  refine es_br (c := s0 = ((-1))) (tgt := 58) (pf := 35) (st' := []) (fun _ _ a b => e_icmp_eq dX1_named_32 rfl a b) (fun c65 => ?_) (fun c65 => ?_)
  · rw [if_pos c65] at hf
    refine es_l (pc' := 59) (ls' := [(1, .int s0), (0, .ref (w.2.1 + 407))]) (st' := [.ref (w.2.1 + 407)]) (fun _ _ k => e_aload_n dX1_named_58 1 rfl k) ?_
    refine es_get (v := .ref (w.2.1 + 7)) xc_1 dX1_named_59 fl_X1_19 (by decide) (by decide) (cel_407 _ _ _) rfl ?_
    refine es_l (pc' := 63) (ls' := [(1, .int s0), (0, .ref (w.2.1 + 407))]) (st' := [.ref (w.2.1 + 407), .ref (w.2.1 + 7)]) (fun _ _ k => e_aload_n dX1_named_62 1 rfl k) ?_
    refine es_get (v := .ref (w.2.1 + 1)) xc_1 dX1_named_63 fl_X1_15 (by decide) (by decide) (cel_407 _ _ _) rfl ?_
    refine es_callVJ (as := []) (rest := [.ref (w.2.1 + 7)]) hf xc_9 dX1_named_66 cs_X1_named_X9_name ml_X1_117 im_X9_name se_X9_name rfl rfl (Nat.le_of_ble_eq_true rfl) (Nat.le_of_ble_eq_true rfl) (by decide) rfl (cel_1 _ _ _) (fun _ e => t_X9_name N  S _ e) (by decide) (fun v67 S66 hf => ?_)
    refine es_callVI (as := [.long v67]) (rest := []) hf xc_3 dX1_named_69 cs_X1_named_X3_kind ml_X1_129 im_X3_kind se_X3_kind rfl rfl (Nat.le_of_ble_eq_true rfl) (Nat.le_of_ble_eq_true rfl) (by decide) rfl (cel_7 _ _ _) (fun _ e => t_X3_kind N v67 S66 _ e) (by decide) (fun v69 S68 hf => ?_)
    refine es_br (c := v69 = 0) (tgt := 128) (pf := 75) (st' := []) (fun _ _ a b => e_if_eq dX1_named_72 rfl a b) (fun c70 => ?_) (fun c70 => ?_)
    · rw [if_pos c70] at hf
      refine es_l (pc' := 129) (ls' := [(1, .int s0), (0, .ref (w.2.1 + 407))]) (st' := [.ref (w.2.1 + 407)]) (fun _ _ k => e_aload_n dX1_named_128 1 rfl k) ?_
      refine es_get (v := .ref (w.2.1 + 97)) xc_1 dX1_named_129 fl_X1_23 (by decide) (by decide) (cel_407 _ _ _) rfl ?_
      refine es_l (pc' := 134) (ls' := [(1, .int s0), (0, .ref (w.2.1 + 407))]) (st' := [.int 45, .ref (w.2.1 + 97)]) (fun _ _ k => e_bipush (v := 45) dX1_named_132 (by decide) k) ?_
      refine es_callVR (as := [.int 45]) (rest := []) hf xc_5 dX1_named_134 cs_X1_named_X5_addPart ml_X1_62 im_X5_addPart se_X5_addPart rfl rfl (Nat.le_of_ble_eq_true rfl) (Nat.le_of_ble_eq_true rfl) (by decide) rfl (cel_97 _ _ _) (fun _ e => t_X5_addPart N 45 S68 _ e) (by decide) (fun v72 S71 hf => ?_)
      refine es_l (pc' := 138) (ls' := [(1, .int s0), (0, .ref (w.2.1 + 407))]) (st' := [.ref (w.2.1 + 407), .ref (w.2.1 + v72)]) (fun _ _ k => e_aload_n dX1_named_137 1 rfl k) ?_
      refine es_get (v := .ref (w.2.1 + 405)) xc_1 dX1_named_138 fl_X1_27 (by decide) (by decide) (cel_407 _ _ _) rfl ?_
      refine es_callVI (as := []) (rest := [.ref (w.2.1 + v72)]) hf xc_7 dX1_named_141 cs_X1_named_X7_takeVariable ml_X1_147 im_X7_takeVariable se_X7_takeVariable rfl rfl (Nat.le_of_ble_eq_true rfl) (Nat.le_of_ble_eq_true rfl) (by decide) rfl (cel_405 _ _ _) (fun _ e => t_X7_takeVariable N  S71 _ e) (by decide) (fun v74 S73 hf => ?_)
      obtain ⟨g75, hf⟩ := xg hf
      refine es_put xc_4 dX1_named_144 fl_X1_69 (by decide) (by decide) (xPart_lt g75) (cel_pa g75 _ _ _) rfl rfl rfl (by rw [cel_pa g75]; rfl) ?_
      refine es_sub [] rfl ?_
      exact t_X1_named_147 N (sI S73 v72 1 v74) r hf
    · rw [if_neg c70] at hf
      refine es_l (pc' := 76) (ls' := [(1, .int s0), (0, .ref (w.2.1 + 407))]) (st' := [.ref (w.2.1 + 407)]) (fun _ _ k => e_aload_n dX1_named_75 1 rfl k) ?_
      refine es_get (v := .ref (w.2.1 + 97)) xc_1 dX1_named_76 fl_X1_23 (by decide) (by decide) (cel_407 _ _ _) rfl ?_
      refine es_l (pc' := 81) (ls' := [(1, .int s0), (0, .ref (w.2.1 + 407))]) (st' := [.int 47, .ref (w.2.1 + 97)]) (fun _ _ k => e_bipush (v := 47) dX1_named_79 (by decide) k) ?_
      refine es_callVR (as := [.int 47]) (rest := []) hf xc_5 dX1_named_81 cs_X1_named_X5_addPart ml_X1_62 im_X5_addPart se_X5_addPart rfl rfl (Nat.le_of_ble_eq_true rfl) (Nat.le_of_ble_eq_true rfl) (by decide) rfl (cel_97 _ _ _) (fun _ e => t_X5_addPart N 47 S68 _ e) (by decide) (fun v77 S76 hf => ?_)
      refine es_l (pc' := 87) (ls' := [(2, .ref (w.2.1 + v77)), (1, .int s0), (0, .ref (w.2.1 + 407))]) (st' := [.ref (w.2.1 + 407), .ref (w.2.1 + v77)]) (fun _ _ k => e_astore_n (ls' := [(2, .ref (w.2.1 + v77)), (1, .int s0), (0, .ref (w.2.1 + 407))]) dX1_named_84 (by decide) rfl (e_aload_n dX1_named_85 0 rfl (e_aload_n dX1_named_86 2 rfl k))) ?_
      refine es_get (v := .ref (w.2.1 + 405)) xc_1 dX1_named_87 fl_X1_27 (by decide) (by decide) (cel_407 _ _ _) rfl ?_
      refine es_callVI (as := []) (rest := [.ref (w.2.1 + v77)]) hf xc_7 dX1_named_90 cs_X1_named_X7_cursor ml_X1_133 im_X7_cursor se_X7_cursor rfl rfl (Nat.le_of_ble_eq_true rfl) (Nat.le_of_ble_eq_true rfl) (by decide) rfl (cel_405 _ _ _) (fun _ e => t_X7_cursor N  S76 _ e) (by decide) (fun v79 S78 hf => ?_)
      obtain ⟨g80, hf⟩ := xg hf
      refine es_put xc_4 dX1_named_93 fl_X1_136 (by decide) (by decide) (xPart_lt g80) (cel_pa g80 _ _ _) rfl rfl rfl (by rw [cel_pa g80]; rfl) ?_
      refine es_l (pc' := 97) (ls' := [(2, .ref (w.2.1 + v77)), (1, .int s0), (0, .ref (w.2.1 + 407))]) (st' := [.ref (w.2.1 + 407)]) (fun _ _ k => e_aload_n dX1_named_96 2 rfl k) ?_
      refine es_get (v := .ref (w.2.1 + 405)) xc_1 dX1_named_97 fl_X1_27 (by decide) (by decide) (cel_407 _ _ _) rfl ?_
      refine es_callVI (as := []) (rest := []) hf xc_7 dX1_named_100 cs_X1_named_X7_takeKind ml_X1_138 im_X7_takeKind se_X7_takeKind rfl rfl (Nat.le_of_ble_eq_true rfl) (Nat.le_of_ble_eq_true rfl) (by decide) rfl (cel_405 _ _ _) (fun _ e => t_X7_takeKind N  (sI S78 v77 4 v79) _ e) (by decide) (fun v82 S81 hf => ?_)
      refine es_l (pc' := 105) (ls' := [(3, .int v82), (2, .ref (w.2.1 + v77)), (1, .int s0), (0, .ref (w.2.1 + 407))]) (st' := [.ref (w.2.1 + 407)]) (fun _ _ k => e_istore_n (ls' := [(3, .int v82), (2, .ref (w.2.1 + v77)), (1, .int s0), (0, .ref (w.2.1 + 407))]) dX1_named_103 (by decide) rfl (e_aload_n dX1_named_104 3 rfl k)) ?_
      refine es_get (v := .ref (w.2.1 + 1)) xc_1 dX1_named_105 fl_X1_15 (by decide) (by decide) (cel_407 _ _ _) rfl ?_
      refine es_l (pc' := 110) (ls' := [(3, .int v82), (2, .ref (w.2.1 + v77)), (1, .int s0), (0, .ref (w.2.1 + 407))]) (st' := [.int 36, .ref (w.2.1 + 1)]) (fun _ _ k => e_bipush (v := 36) dX1_named_108 (by decide) k) ?_
      refine es_callVV (as := [.int 36]) (rest := []) hf xc_9 dX1_named_110 cs_X1_named_X9_take ml_X1_141 im_X9_take se_X9_take rfl rfl (Nat.le_of_ble_eq_true rfl) (Nat.le_of_ble_eq_true rfl) (by decide) rfl (cel_1 _ _ _) (fun _ e => t_X9_take N 36 S81 _ e) (by decide) (fun S83 hf => ?_)
      refine es_l (pc' := 115) (ls' := [(3, .int v82), (2, .ref (w.2.1 + v77)), (1, .int s0), (0, .ref (w.2.1 + 407))]) (st' := [.ref (w.2.1 + 407), .ref (w.2.1 + v77)]) (fun _ _ k => e_aload_n dX1_named_113 1 rfl (e_aload_n dX1_named_114 3 rfl k)) ?_
      refine es_get (v := .ref (w.2.1 + 405)) xc_1 dX1_named_115 fl_X1_27 (by decide) (by decide) (cel_407 _ _ _) rfl ?_
      refine es_l (pc' := 119) (ls' := [(3, .int v82), (2, .ref (w.2.1 + v77)), (1, .int s0), (0, .ref (w.2.1 + 407))]) (st' := [.int v82, .ref (w.2.1 + 405), .ref (w.2.1 + v77)]) (fun _ _ k => e_iload_n dX1_named_118 0 rfl k) ?_
      refine es_callVI (as := [.int v82]) (rest := [.ref (w.2.1 + v77)]) hf xc_7 dX1_named_119 cs_X1_named_X7_takeField ml_X1_144 im_X7_takeField se_X7_takeField rfl rfl (Nat.le_of_ble_eq_true rfl) (Nat.le_of_ble_eq_true rfl) (by decide) rfl (cel_405 _ _ _) (fun _ e => t_X7_takeField N v82 S83 _ e) (by decide) (fun v86 S85 hf => ?_)
      refine es_put xc_4 dX1_named_122 fl_X1_127 (by decide) (by decide) (xPart_lt g80) (cel_pa g80 _ _ _) rfl rfl rfl (by rw [cel_pa g80]; rfl) ?_
      refine es_l (pc' := 147) (ls' := [(3, .int v82), (2, .ref (w.2.1 + v77)), (1, .int s0), (0, .ref (w.2.1 + 407))]) (st' := []) (fun _ _ k => e_goto (tgt := 147) dX1_named_125 rfl k) ?_
      refine es_sub [] rfl ?_
      exact t_X1_named_147 N (sI S85 v77 3 v86) r hf
  · rw [if_neg c65] at hf
    refine es_l (pc' := 36) (ls' := [(1, .int s0), (0, .ref (w.2.1 + 407))]) (st' := [.ref (w.2.1 + 407)]) (fun _ _ k => e_aload_n dX1_named_35 1 rfl k) ?_
    refine es_get (v := .ref (w.2.1 + 97)) xc_1 dX1_named_36 fl_X1_23 (by decide) (by decide) (cel_407 _ _ _) rfl ?_
    refine es_l (pc' := 41) (ls' := [(1, .int s0), (0, .ref (w.2.1 + 407))]) (st' := [.int 46, .ref (w.2.1 + 97)]) (fun _ _ k => e_bipush (v := 46) dX1_named_39 (by decide) k) ?_
    refine es_callVR (as := [.int 46]) (rest := []) hf xc_5 dX1_named_41 cs_X1_named_X5_addPart ml_X1_62 im_X5_addPart se_X5_addPart rfl rfl (Nat.le_of_ble_eq_true rfl) (Nat.le_of_ble_eq_true rfl) (by decide) rfl (cel_97 _ _ _) (fun _ e => t_X5_addPart N 46 S _ e) (by decide) (fun v88 S87 hf => ?_)
    refine es_l (pc' := 45) (ls' := [(1, .int s0), (0, .ref (w.2.1 + 407))]) (st' := [.int s0, .ref (w.2.1 + v88)]) (fun _ _ k => e_iload_n dX1_named_44 0 rfl k) ?_
    obtain ⟨g89, hf⟩ := xg hf
    refine es_put xc_4 dX1_named_45 fl_X1_127 (by decide) (by decide) (xPart_lt g89) (cel_pa g89 _ _ _) rfl rfl rfl (by rw [cel_pa g89]; rfl) ?_
    refine es_l (pc' := 49) (ls' := [(1, .int s0), (0, .ref (w.2.1 + 407))]) (st' := [.ref (w.2.1 + 407)]) (fun _ _ k => e_aload_n dX1_named_48 1 rfl k) ?_
    refine es_get (v := .ref (w.2.1 + 1)) xc_1 dX1_named_49 fl_X1_15 (by decide) (by decide) (cel_407 _ _ _) rfl ?_
    refine es_callVV (as := []) (rest := []) hf xc_9 dX1_named_52 cs_X1_named_X9_pass ml_X1_73 im_X9_pass se_X9_pass rfl rfl (Nat.le_of_ble_eq_true rfl) (Nat.le_of_ble_eq_true rfl) (by decide) rfl (cel_1 _ _ _) (fun _ e => t_X9_pass N  (sI S87 v88 3 s0) _ e) (by decide) (fun S90 hf => ?_)
    refine es_l (pc' := 147) (ls' := [(1, .int s0), (0, .ref (w.2.1 + 407))]) (st' := []) (fun _ _ k => e_goto (tgt := 147) dX1_named_55 rfl k) ?_
    refine es_sub [] rfl ?_
    exact t_X1_named_147 N S90 r hf
def f_X1_named (N : Nat)  (S : xS) : Option xr :=
  if (S.1 407 7) = 0 then
    f_X1_named_29 N ((-1)) S
  else
    xcJ (f_X9_name N S) (fun v94 S93 =>
    xcI (f_X3_field N (S.1 407 7) v94 S93) (fun v96 S95 =>
    f_X1_named_29 N v96 S95
    )
    )
set_option maxRecDepth 100000 in
set_option maxHeartbeats 4000000 in
theorem t_X1_named {l : Launch} {w : xW} {g : Nat → xE} (N : Nat)  (S : xS) (r : xr) (hf : f_X1_named N  S = some r) : ES l w g M_X1_named 0 (lv_args 0 [.ref (w.2.1 + 407)]) [] S r := by
  show ES l w g M_X1_named 0 [(0, .ref (w.2.1 + 407))] [] S r
  unfold f_X1_named at hf
  refine es_l (pc' := 1) (ls' := [(0, .ref (w.2.1 + 407))]) (st' := [.ref (w.2.1 + 407)]) (fun _ _ k => e_aload_n dX1_named_0 0 rfl k) ?_
  refine es_get (v := .int (S.1 407 7)) xc_1 dX1_named_1 fl_X1_31 (by decide) (by decide) (cel_407 _ _ _) rfl ?_
  refine es_br (c := (S.1 407 7) = 0) (tgt := 7) (pf := 11) (st' := []) (fun _ _ a b => e_if_ne dX1_named_4 rfl b a) (fun c92 => ?_) (fun c92 => ?_)
  · rw [if_pos c92] at hf
    refine es_l (pc' := 29) (ls' := [(0, .ref (w.2.1 + 407))]) (st' := [.int ((-1))]) (fun _ _ k => e_iconst (v := (-1)) dX1_named_7 (by decide) (e_goto (tgt := 29) dX1_named_8 rfl k)) ?_
    exact t_X1_named_29 N ((-1)) S r hf
  · rw [if_neg c92] at hf
    refine es_l (pc' := 12) (ls' := [(0, .ref (w.2.1 + 407))]) (st' := [.ref (w.2.1 + 407)]) (fun _ _ k => e_aload_n dX1_named_11 0 rfl k) ?_
    refine es_get (v := .ref (w.2.1 + 7)) xc_1 dX1_named_12 fl_X1_19 (by decide) (by decide) (cel_407 _ _ _) rfl ?_
    refine es_l (pc' := 16) (ls' := [(0, .ref (w.2.1 + 407))]) (st' := [.ref (w.2.1 + 407), .ref (w.2.1 + 7)]) (fun _ _ k => e_aload_n dX1_named_15 0 rfl k) ?_
    refine es_get (v := .int (S.1 407 7)) xc_1 dX1_named_16 fl_X1_31 (by decide) (by decide) (cel_407 _ _ _) rfl ?_
    refine es_l (pc' := 20) (ls' := [(0, .ref (w.2.1 + 407))]) (st' := [.ref (w.2.1 + 407), .int (S.1 407 7), .ref (w.2.1 + 7)]) (fun _ _ k => e_aload_n dX1_named_19 0 rfl k) ?_
    refine es_get (v := .ref (w.2.1 + 1)) xc_1 dX1_named_20 fl_X1_15 (by decide) (by decide) (cel_407 _ _ _) rfl ?_
    refine es_callVJ (as := []) (rest := [.int (S.1 407 7), .ref (w.2.1 + 7)]) hf xc_9 dX1_named_23 cs_X1_named_X9_name ml_X1_117 im_X9_name se_X9_name rfl rfl (Nat.le_of_ble_eq_true rfl) (Nat.le_of_ble_eq_true rfl) (by decide) rfl (cel_1 _ _ _) (fun _ e => t_X9_name N  S _ e) (by decide) (fun v94 S93 hf => ?_)
    refine es_callVI (as := [.int (S.1 407 7), .long v94]) (rest := []) hf xc_3 dX1_named_26 cs_X1_named_X3_field ml_X1_121 im_X3_field se_X3_field rfl rfl (Nat.le_of_ble_eq_true rfl) (Nat.le_of_ble_eq_true rfl) (by decide) rfl (cel_7 _ _ _) (fun _ e => t_X3_field N (S.1 407 7) v94 S93 _ e) (by decide) (fun v96 S95 hf => ?_)
    exact t_X1_named_29 N v96 S95 r hf
def f_X7_enter_20 (N : Nat)   (S : xS) : Option xr :=
  some (.inr "java/lang/IllegalArgumentException", sE S)
set_option maxRecDepth 100000 in
set_option maxHeartbeats 4000000 in
theorem t_X7_enter_20 {l : Launch} {w : xW} {g : Nat → xE} (N : Nat)    (S : xS) (r : xr) (hf : f_X7_enter_20 N   S = some r) : ES l w g M_X7_enter 20 [] [] S r := by
  unfold f_X7_enter_20 at hf
  exact es_throw (names := ["java/lang/RuntimeException", "java/lang/Exception"]) (by decide +kernel) (by decide +kernel) th_k_X7_40 th_i_IllegalArgumentException th_a_X7_40 th_g_X7_40 dX7_enter_20 dX7_enter_23 dX7_enter_24 dX7_enter_27 (by decide) (by decide) (by decide) hf
def f_X7_enter (N : Nat) (x1 : Int32) (S : xS) : Option xr :=
  xcI (f_X9_sort N S) (fun v14 S13 =>
  if v14 = x1 then
    if (S13.1 405 5) = 10 then
      f_X7_enter_20 N S13
    else
      xcV (f_X9_pass N (sI S13 405 5 ((S13.1 405 5) + 1))) (fun S17 =>
      some (.inl none, S17)
      )
  else
    f_X7_enter_20 N S13
  )
set_option maxRecDepth 100000 in
set_option maxHeartbeats 4000000 in
theorem t_X7_enter {l : Launch} {w : xW} {g : Nat → xE} (N : Nat) (x1 : Int32) (S : xS) (r : xr) (hf : f_X7_enter N x1 S = some r) : ES l w g M_X7_enter 0 (lv_args 0 [.ref (w.2.1 + 405), .int x1]) [] S r := by
  show ES l w g M_X7_enter 0 [(0, .ref (w.2.1 + 405)), (1, .int x1)] [] S r
  unfold f_X7_enter at hf
  refine es_l (pc' := 1) (ls' := [(0, .ref (w.2.1 + 405)), (1, .int x1)]) (st' := [.ref (w.2.1 + 405)]) (fun _ _ k => e_aload_n dX7_enter_0 0 rfl k) ?_
  refine es_get (v := .ref (w.2.1 + 1)) xc_7 dX7_enter_1 fl_X7_15 (by decide) (by decide) (cel_405 _ _ _) rfl ?_
  refine es_callVI (as := []) (rest := []) hf xc_9 dX7_enter_4 cs_X7_enter_X9_sort ml_X7_34 im_X9_sort se_X9_sort rfl rfl (Nat.le_of_ble_eq_true rfl) (Nat.le_of_ble_eq_true rfl) (by decide) rfl (cel_1 _ _ _) (fun _ e => t_X9_sort N  S _ e) (by decide) (fun v14 S13 hf => ?_)
  refine es_l (pc' := 8) (ls' := [(0, .ref (w.2.1 + 405)), (1, .int x1)]) (st' := [.int x1, .int v14]) (fun _ _ k => e_iload_n dX7_enter_7 1 rfl k) ?_
  refine es_br (c := v14 = x1) (tgt := 11) (pf := 20) (st' := []) (fun _ _ a b => e_icmp_ne dX7_enter_8 rfl b a) (fun c15 => ?_) (fun c15 => ?_)
  · rw [if_pos c15] at hf
    refine es_l (pc' := 12) (ls' := [(0, .ref (w.2.1 + 405)), (1, .int x1)]) (st' := [.ref (w.2.1 + 405)]) (fun _ _ k => e_aload_n dX7_enter_11 0 rfl k) ?_
    refine es_get (v := .int (S13.1 405 5)) xc_7 dX7_enter_12 fl_X7_31 (by decide) (by decide) (cel_405 _ _ _) rfl ?_
    refine es_l (pc' := 17) (ls' := [(0, .ref (w.2.1 + 405)), (1, .int x1)]) (st' := [.int 10, .int (S13.1 405 5)]) (fun _ _ k => e_bipush (v := 10) dX7_enter_15 (by decide) k) ?_
    refine es_br (c := (S13.1 405 5) = 10) (tgt := 20) (pf := 28) (st' := []) (fun _ _ a b => e_icmp_ne dX7_enter_17 rfl b a) (fun c16 => ?_) (fun c16 => ?_)
    · rw [if_pos c16] at hf
      refine es_sub [] rfl ?_
      exact t_X7_enter_20 N S13 r hf
    · rw [if_neg c16] at hf
      refine es_l (pc' := 30) (ls' := [(0, .ref (w.2.1 + 405)), (1, .int x1)]) (st' := [.ref (w.2.1 + 405), .ref (w.2.1 + 405)]) (fun _ _ k => e_aload_n dX7_enter_28 0 rfl (e_dup dX7_enter_29 rfl k)) ?_
      refine es_get (v := .int (S13.1 405 5)) xc_7 dX7_enter_30 fl_X7_31 (by decide) (by decide) (cel_405 _ _ _) rfl ?_
      refine es_l (pc' := 35) (ls' := [(0, .ref (w.2.1 + 405)), (1, .int x1)]) (st' := [.int ((S13.1 405 5) + 1), .ref (w.2.1 + 405)]) (fun _ _ k => e_iconst (v := 1) dX7_enter_33 (by decide) (e_iadd dX7_enter_34 k)) ?_
      refine es_put xc_7 dX7_enter_35 fl_X7_31 (by decide) (by decide) (by decide) (cel_405 _ _ _) rfl rfl rfl rfl ?_
      refine es_l (pc' := 39) (ls' := [(0, .ref (w.2.1 + 405)), (1, .int x1)]) (st' := [.ref (w.2.1 + 405)]) (fun _ _ k => e_aload_n dX7_enter_38 0 rfl k) ?_
      refine es_get (v := .ref (w.2.1 + 1)) xc_7 dX7_enter_39 fl_X7_15 (by decide) (by decide) (cel_405 _ _ _) rfl ?_
      refine es_callVV (as := []) (rest := []) hf xc_9 dX7_enter_42 cs_X7_enter_X9_pass ml_X7_43 im_X9_pass se_X9_pass rfl rfl (Nat.le_of_ble_eq_true rfl) (Nat.le_of_ble_eq_true rfl) (by decide) rfl (cel_1 _ _ _) (fun _ e => t_X9_pass N  (sI S13 405 5 ((S13.1 405 5) + 1)) _ e) (by decide) (fun S17 hf => ?_)
      exact es_return dX7_enter_45 rfl hf
  · rw [if_neg c15] at hf
    refine es_sub [] rfl ?_
    exact t_X7_enter_20 N S13 r hf
def f_X1_prefix_67 (N : Nat)  (s0 : Int32) (S : xS) : Option xr :=
  xcV (f_X1_push N s0 S) (fun S29 =>
  xcV (f_X9_pass N S29) (fun S31 =>
  some (.inl none, S31)
  )
  )
set_option maxRecDepth 100000 in
set_option maxHeartbeats 4000000 in
theorem t_X1_prefix_67 {l : Launch} {w : xW} {g : Nat → xE} (N : Nat)   (s0 : Int32) (S : xS) (r : xr) (hf : f_X1_prefix_67 N  s0 S = some r) : ES l w g M_X1_prefix 67 [(0, .ref (w.2.1 + 407))] [.int s0, .ref (w.2.1 + 407)] S r := by
  unfold f_X1_prefix_67 at hf
  refine es_callVV (as := [.int s0]) (rest := []) hf xc_1 dX1_prefix_67 cs_X1_prefix_X1_push ml_X1_85 im_X1_push se_X1_push rfl rfl (Nat.le_of_ble_eq_true rfl) (Nat.le_of_ble_eq_true rfl) (by decide) rfl (cel_407 _ _ _) (fun _ e => t_X1_push N s0 S _ e) (by decide) (fun S29 hf => ?_)
  refine es_l (pc' := 71) (ls' := [(0, .ref (w.2.1 + 407))]) (st' := [.ref (w.2.1 + 407)]) (fun _ _ k => e_aload_n dX1_prefix_70 0 rfl k) ?_
  refine es_get (v := .ref (w.2.1 + 1)) xc_1 dX1_prefix_71 fl_X1_15 (by decide) (by decide) (cel_407 _ _ _) rfl ?_
  refine es_callVV (as := []) (rest := []) hf xc_9 dX1_prefix_74 cs_X1_prefix_X9_pass ml_X1_73 im_X9_pass se_X9_pass rfl rfl (Nat.le_of_ble_eq_true rfl) (Nat.le_of_ble_eq_true rfl) (by decide) rfl (cel_1 _ _ _) (fun _ e => t_X9_pass N  S29 _ e) (by decide) (fun S31 hf => ?_)
  exact es_return dX1_prefix_77 rfl hf
def f_X1_prefix_55 (N : Nat)  (x1 : Int32) (S : xS) : Option xr :=
  if x1 = 0 then
    f_X1_prefix_67 N 44 S
  else
    f_X1_prefix_67 N 16 S
set_option maxRecDepth 100000 in
set_option maxHeartbeats 4000000 in
theorem t_X1_prefix_55 {l : Launch} {w : xW} {g : Nat → xE} (N : Nat)   (x1 : Int32) (S : xS) (r : xr) (hf : f_X1_prefix_55 N  x1 S = some r) : ES l w g M_X1_prefix 55 [(0, .ref (w.2.1 + 407)), (1, .int x1)] [] S r := by
  unfold f_X1_prefix_55 at hf
  refine es_l (pc' := 57) (ls' := [(0, .ref (w.2.1 + 407)), (1, .int x1)]) (st' := [.int x1, .ref (w.2.1 + 407)]) (fun _ _ k => e_aload_n dX1_prefix_55 0 rfl (e_iload_n dX1_prefix_56 1 rfl k)) ?_
  refine es_br (c := x1 = 0) (tgt := 65) (pf := 60) (st' := [.ref (w.2.1 + 407)]) (fun _ _ a b => e_if_eq dX1_prefix_57 rfl a b) (fun c33 => ?_) (fun c33 => ?_)
  · rw [if_pos c33] at hf
    refine es_l (pc' := 67) (ls' := [(0, .ref (w.2.1 + 407)), (1, .int x1)]) (st' := [.int 44, .ref (w.2.1 + 407)]) (fun _ _ k => e_bipush (v := 44) dX1_prefix_65 (by decide) k) ?_
    refine es_sub [0] rfl ?_
    exact t_X1_prefix_67 N 44 S r hf
  · rw [if_neg c33] at hf
    refine es_l (pc' := 67) (ls' := [(0, .ref (w.2.1 + 407)), (1, .int x1)]) (st' := [.int 16, .ref (w.2.1 + 407)]) (fun _ _ k => e_bipush (v := 16) dX1_prefix_60 (by decide) (e_goto (tgt := 67) dX1_prefix_62 rfl k)) ?_
    refine es_sub [0] rfl ?_
    exact t_X1_prefix_67 N 16 S r hf
def f_X1_prefix_17 (N : Nat)  (s0 : Int32) (S : xS) : Option xr :=
  if s0 = 0 then
    f_X1_prefix_55 N s0 S
  else
    if (S.1 407 5) ≤ 0 then
      f_X1_prefix_55 N s0 S
    else
      if xin ((S.1 407 5) - 1) 151 then
      xcI (f_X1_rank N (S.1 408 (((S.1 407 5) - 1).toNatClampNeg)) S) (fun v38 S37 =>
      if v38 ≤ 3 then
        f_X1_prefix_55 N s0 S37
      else
        some (.inr "java/lang/IllegalArgumentException", sE S37)
      )
      else none
set_option maxRecDepth 100000 in
set_option maxHeartbeats 4000000 in
theorem t_X1_prefix_17 {l : Launch} {w : xW} {g : Nat → xE} (N : Nat)   (s0 : Int32) (S : xS) (r : xr) (hf : f_X1_prefix_17 N  s0 S = some r) : ES l w g M_X1_prefix 17 [(0, .ref (w.2.1 + 407))] [.int s0] S r := by
  unfold f_X1_prefix_17 at hf
  refine es_l (pc' := 19) (ls' := [(1, .int s0), (0, .ref (w.2.1 + 407))]) (st' := [.int s0]) (fun _ _ k => e_istore_n (ls' := [(1, .int s0), (0, .ref (w.2.1 + 407))]) dX1_prefix_17 (by decide) rfl (e_iload_n dX1_prefix_18 0 rfl k)) ?_
  refine es_br (c := s0 = 0) (tgt := 55) (pf := 22) (st' := []) (fun _ _ a b => e_if_eq dX1_prefix_19 rfl a b) (fun c34 => ?_) (fun c34 => ?_)
  · rw [if_pos c34] at hf
    refine es_sub [1, 0] rfl ?_
    exact t_X1_prefix_55 N s0 S r hf
  · rw [if_neg c34] at hf
    refine es_l (pc' := 23) (ls' := [(1, .int s0), (0, .ref (w.2.1 + 407))]) (st' := [.ref (w.2.1 + 407)]) (fun _ _ k => e_aload_n dX1_prefix_22 1 rfl k) ?_
    refine es_get (v := .int (S.1 407 5)) xc_1 dX1_prefix_23 fl_X1_35 (by decide) (by decide) (cel_407 _ _ _) rfl ?_
    refine es_br (c := (S.1 407 5) ≤ 0) (tgt := 55) (pf := 29) (st' := []) (fun _ _ a b => e_if_le dX1_prefix_26 rfl a b) (fun c35 => ?_) (fun c35 => ?_)
    · rw [if_pos c35] at hf
      refine es_sub [1, 0] rfl ?_
      exact t_X1_prefix_55 N s0 S r hf
    · rw [if_neg c35] at hf
      refine es_l (pc' := 30) (ls' := [(1, .int s0), (0, .ref (w.2.1 + 407))]) (st' := [.ref (w.2.1 + 407)]) (fun _ _ k => e_aload_n dX1_prefix_29 1 rfl k) ?_
      refine es_get (v := .ref (w.2.1 + 408)) xc_1 dX1_prefix_30 fl_X1_9 (by decide) (by decide) (cel_407 _ _ _) rfl ?_
      refine es_l (pc' := 34) (ls' := [(1, .int s0), (0, .ref (w.2.1 + 407))]) (st' := [.ref (w.2.1 + 407), .ref (w.2.1 + 408)]) (fun _ _ k => e_aload_n dX1_prefix_33 1 rfl k) ?_
      refine es_get (v := .int (S.1 407 5)) xc_1 dX1_prefix_34 fl_X1_35 (by decide) (by decide) (cel_407 _ _ _) rfl ?_
      refine es_l (pc' := 39) (ls' := [(1, .int s0), (0, .ref (w.2.1 + 407))]) (st' := [.int ((S.1 407 5) - 1), .ref (w.2.1 + 408)]) (fun _ _ k => e_iconst (v := 1) dX1_prefix_37 (by decide) (e_isub dX1_prefix_38 k)) ?_
      obtain ⟨g36, hf⟩ := xg hf
      refine es_iald (v := .int (S.1 408 (((S.1 407 5) - 1).toNatClampNeg))) dX1_prefix_39 (by decide) (cel_408 _ _ _) g36 rfl ?_
      refine es_callSI (as := [.int (S.1 408 (((S.1 407 5) - 1).toNatClampNeg))]) (rest := []) hf dX1_prefix_40 cs_X1_prefix_X1_rank ml_X1_100 st_X1_rank rfl rfl (Nat.le_of_ble_eq_true rfl) (Nat.le_of_ble_eq_true rfl) (fun _ e => t_X1_rank N (S.1 408 (((S.1 407 5) - 1).toNatClampNeg)) S _ e) (by decide) (fun v38 S37 hf => ?_)
      refine es_l (pc' := 44) (ls' := [(1, .int s0), (0, .ref (w.2.1 + 407))]) (st' := [.int 3, .int v38]) (fun _ _ k => e_iconst (v := 3) dX1_prefix_43 (by decide) k) ?_
      refine es_br (c := v38 ≤ 3) (tgt := 55) (pf := 47) (st' := []) (fun _ _ a b => e_icmp_le dX1_prefix_44 rfl a b) (fun c39 => ?_) (fun c39 => ?_)
      · rw [if_pos c39] at hf
        refine es_sub [1, 0] rfl ?_
        exact t_X1_prefix_55 N s0 S37 r hf
      · rw [if_neg c39] at hf
        exact es_throw (names := ["java/lang/RuntimeException", "java/lang/Exception"]) (by decide +kernel) (by decide +kernel) th_k_X1_94 th_i_IllegalArgumentException th_a_X1_94 th_g_X1_94 dX1_prefix_47 dX1_prefix_50 dX1_prefix_51 dX1_prefix_54 (by decide) (by decide) (by decide) hf
def f_X1_prefix (N : Nat)  (S : xS) : Option xr :=
  xcI (f_X9_sort N S) (fun v41 S40 =>
  if v41 = 16 then
    f_X1_prefix_17 N 1 S40
  else
    f_X1_prefix_17 N 0 S40
  )
set_option maxRecDepth 100000 in
set_option maxHeartbeats 4000000 in
theorem t_X1_prefix {l : Launch} {w : xW} {g : Nat → xE} (N : Nat)  (S : xS) (r : xr) (hf : f_X1_prefix N  S = some r) : ES l w g M_X1_prefix 0 (lv_args 0 [.ref (w.2.1 + 407)]) [] S r := by
  show ES l w g M_X1_prefix 0 [(0, .ref (w.2.1 + 407))] [] S r
  unfold f_X1_prefix at hf
  refine es_l (pc' := 1) (ls' := [(0, .ref (w.2.1 + 407))]) (st' := [.ref (w.2.1 + 407)]) (fun _ _ k => e_aload_n dX1_prefix_0 0 rfl k) ?_
  refine es_get (v := .ref (w.2.1 + 1)) xc_1 dX1_prefix_1 fl_X1_15 (by decide) (by decide) (cel_407 _ _ _) rfl ?_
  refine es_callVI (as := []) (rest := []) hf xc_9 dX1_prefix_4 cs_X1_prefix_X9_sort ml_X1_50 im_X9_sort se_X9_sort rfl rfl (Nat.le_of_ble_eq_true rfl) (Nat.le_of_ble_eq_true rfl) (by decide) rfl (cel_1 _ _ _) (fun _ e => t_X9_sort N  S _ e) (by decide) (fun v41 S40 hf => ?_)
  refine es_l (pc' := 9) (ls' := [(0, .ref (w.2.1 + 407))]) (st' := [.int 16, .int v41]) (fun _ _ k => e_bipush (v := 16) dX1_prefix_7 (by decide) k) ?_
  refine es_br (c := v41 = 16) (tgt := 12) (pf := 16) (st' := []) (fun _ _ a b => e_icmp_ne dX1_prefix_9 rfl b a) (fun c42 => ?_) (fun c42 => ?_)
  · rw [if_pos c42] at hf
    refine es_l (pc' := 17) (ls' := [(0, .ref (w.2.1 + 407))]) (st' := [.int 1]) (fun _ _ k => e_iconst (v := 1) dX1_prefix_12 (by decide) (e_goto (tgt := 17) dX1_prefix_13 rfl k)) ?_
    exact t_X1_prefix_17 N 1 S40 r hf
  · rw [if_neg c42] at hf
    refine es_l (pc' := 17) (ls' := [(0, .ref (w.2.1 + 407))]) (st' := [.int 0]) (fun _ _ k => e_iconst (v := 0) dX1_prefix_16 (by decide) k) ?_
    exact t_X1_prefix_17 N 0 S40 r hf
def f_X9_passed_33 (N : Nat)  (x2 : Int32) (s0 : Int32) (s1 : Int32) (S : xS) : Option xr :=
  if xbo x2 then
  some (.inl (some (.inl x2)), sI S 1 7 (s1 + s0))
  else none
set_option maxRecDepth 100000 in
set_option maxHeartbeats 4000000 in
theorem t_X9_passed_33 {l : Launch} {w : xW} {g : Nat → xE} (N : Nat)   (x2 : Int32) (s0 : Int32) (s1 : Int32) (S : xS) (r : xr) (hf : f_X9_passed_33 N  x2 s0 s1 S = some r) : ES l w g M_X9_passed 33 [(2, .int x2)] [.int s0, .int s1, .ref (w.2.1 + 1)] S r := by
  unfold f_X9_passed_33 at hf
  refine es_l (pc' := 34) (ls' := [(2, .int x2)]) (st' := [.int (s1 + s0), .ref (w.2.1 + 1)]) (fun _ _ k => e_iadd dX9_passed_33 k) ?_
  refine es_put xc_9 dX9_passed_34 fl_X9_48 (by decide) (by decide) (by decide) (cel_1 _ _ _) rfl rfl rfl rfl ?_
  refine es_l (pc' := 38) (ls' := [(2, .int x2)]) (st' := [.int x2]) (fun _ _ k => e_iload_n dX9_passed_37 0 rfl k) ?_
  obtain ⟨g9, hf⟩ := xg hf
  exact es_ireturn (ty := .boolean) dX9_passed_38 rfl (xbo_n g9) hf
def f_X9_passed_18 (N : Nat)  (s0 : Int32) (S : xS) : Option xr :=
  if s0 = 0 then
    f_X9_passed_33 N s0 0 (S.1 1 7) S
  else
    f_X9_passed_33 N s0 1 (S.1 1 7) S
set_option maxRecDepth 100000 in
set_option maxHeartbeats 4000000 in
theorem t_X9_passed_18 {l : Launch} {w : xW} {g : Nat → xE} (N : Nat)   (s0 : Int32) (S : xS) (r : xr) (hf : f_X9_passed_18 N  s0 S = some r) : ES l w g M_X9_passed 18 [(0, .ref (w.2.1 + 1))] [.int s0] S r := by
  unfold f_X9_passed_18 at hf
  refine es_l (pc' := 21) (ls' := [(2, .int s0), (0, .ref (w.2.1 + 1))]) (st' := [.ref (w.2.1 + 1), .ref (w.2.1 + 1)]) (fun _ _ k => e_istore_n (ls' := [(2, .int s0), (0, .ref (w.2.1 + 1))]) dX9_passed_18 (by decide) rfl (e_aload_n dX9_passed_19 1 rfl (e_dup dX9_passed_20 rfl k))) ?_
  refine es_get (v := .int (S.1 1 7)) xc_9 dX9_passed_21 fl_X9_48 (by decide) (by decide) (cel_1 _ _ _) rfl ?_
  refine es_l (pc' := 25) (ls' := [(2, .int s0), (0, .ref (w.2.1 + 1))]) (st' := [.int s0, .int (S.1 1 7), .ref (w.2.1 + 1)]) (fun _ _ k => e_iload_n dX9_passed_24 0 rfl k) ?_
  refine es_br (c := s0 = 0) (tgt := 32) (pf := 28) (st' := [.int (S.1 1 7), .ref (w.2.1 + 1)]) (fun _ _ a b => e_if_eq dX9_passed_25 rfl a b) (fun c10 => ?_) (fun c10 => ?_)
  · rw [if_pos c10] at hf
    refine es_l (pc' := 33) (ls' := [(2, .int s0), (0, .ref (w.2.1 + 1))]) (st' := [.int 0, .int (S.1 1 7), .ref (w.2.1 + 1)]) (fun _ _ k => e_iconst (v := 0) dX9_passed_32 (by decide) k) ?_
    refine es_sub [0] rfl ?_
    exact t_X9_passed_33 N s0 0 (S.1 1 7) S r hf
  · rw [if_neg c10] at hf
    refine es_l (pc' := 33) (ls' := [(2, .int s0), (0, .ref (w.2.1 + 1))]) (st' := [.int 1, .int (S.1 1 7), .ref (w.2.1 + 1)]) (fun _ _ k => e_iconst (v := 1) dX9_passed_28 (by decide) (e_goto (tgt := 33) dX9_passed_29 rfl k)) ?_
    refine es_sub [0] rfl ?_
    exact t_X9_passed_33 N s0 1 (S.1 1 7) S r hf
def f_X9_passed (N : Nat) (x1 : Int32) (S : xS) : Option xr :=
  if xin (S.1 1 7) 151 then
  if (S.1 4 ((S.1 1 7).toNatClampNeg)) = x1 then
    f_X9_passed_18 N 1 S
  else
    f_X9_passed_18 N 0 S
  else none
set_option maxRecDepth 100000 in
set_option maxHeartbeats 4000000 in
theorem t_X9_passed {l : Launch} {w : xW} {g : Nat → xE} (N : Nat) (x1 : Int32) (S : xS) (r : xr) (hf : f_X9_passed N x1 S = some r) : ES l w g M_X9_passed 0 (lv_args 0 [.ref (w.2.1 + 1), .int x1]) [] S r := by
  show ES l w g M_X9_passed 0 [(0, .ref (w.2.1 + 1)), (1, .int x1)] [] S r
  unfold f_X9_passed at hf
  refine es_l (pc' := 1) (ls' := [(0, .ref (w.2.1 + 1)), (1, .int x1)]) (st' := [.ref (w.2.1 + 1)]) (fun _ _ k => e_aload_n dX9_passed_0 0 rfl k) ?_
  refine es_get (v := .ref (w.2.1 + 4)) xc_9 dX9_passed_1 fl_X9_19 (by decide) (by decide) (cel_1 _ _ _) rfl ?_
  refine es_l (pc' := 5) (ls' := [(0, .ref (w.2.1 + 1)), (1, .int x1)]) (st' := [.ref (w.2.1 + 1), .ref (w.2.1 + 4)]) (fun _ _ k => e_aload_n dX9_passed_4 0 rfl k) ?_
  refine es_get (v := .int (S.1 1 7)) xc_9 dX9_passed_5 fl_X9_48 (by decide) (by decide) (cel_1 _ _ _) rfl ?_
  obtain ⟨g11, hf⟩ := xg hf
  refine es_iald (v := .int (S.1 4 ((S.1 1 7).toNatClampNeg))) dX9_passed_8 (by decide) (cel_4 _ _ _) g11 rfl ?_
  refine es_l (pc' := 10) (ls' := [(0, .ref (w.2.1 + 1)), (1, .int x1)]) (st' := [.int x1, .int (S.1 4 ((S.1 1 7).toNatClampNeg))]) (fun _ _ k => e_iload_n dX9_passed_9 1 rfl k) ?_
  refine es_br (c := (S.1 4 ((S.1 1 7).toNatClampNeg)) = x1) (tgt := 13) (pf := 17) (st' := []) (fun _ _ a b => e_icmp_ne dX9_passed_10 rfl b a) (fun c12 => ?_) (fun c12 => ?_)
  · rw [if_pos c12] at hf
    refine es_l (pc' := 18) (ls' := [(0, .ref (w.2.1 + 1)), (1, .int x1)]) (st' := [.int 1]) (fun _ _ k => e_iconst (v := 1) dX9_passed_13 (by decide) (e_goto (tgt := 18) dX9_passed_14 rfl k)) ?_
    refine es_sub [0] rfl ?_
    exact t_X9_passed_18 N 1 S r hf
  · rw [if_neg c12] at hf
    refine es_l (pc' := 18) (ls' := [(0, .ref (w.2.1 + 1)), (1, .int x1)]) (st' := [.int 0]) (fun _ _ k => e_iconst (v := 0) dX9_passed_17 (by decide) k) ?_
    refine es_sub [0] rfl ?_
    exact t_X9_passed_18 N 0 S r hf
def f_X1_aggregate_27 (N : Nat)   (S : xS) : Option xr :=
  some (.inr "java/lang/IllegalArgumentException", sE S)
set_option maxRecDepth 100000 in
set_option maxHeartbeats 4000000 in
theorem t_X1_aggregate_27 {l : Launch} {w : xW} {g : Nat → xE} (N : Nat)    (S : xS) (r : xr) (hf : f_X1_aggregate_27 N   S = some r) : ES l w g M_X1_aggregate 27 [] [] S r := by
  unfold f_X1_aggregate_27 at hf
  exact es_throw (names := ["java/lang/RuntimeException", "java/lang/Exception"]) (by decide +kernel) (by decide +kernel) th_k_X1_94 th_i_IllegalArgumentException th_a_X1_94 th_g_X1_94 dX1_aggregate_27 dX1_aggregate_30 dX1_aggregate_31 dX1_aggregate_34 (by decide) (by decide) (by decide) hf
def f_X1_aggregate_190 (N : Nat)  (x3 : Int32) (S : xS) : Option xr :=
  if xbo x3 then
  some (.inl (some (.inl x3)), S)
  else none
set_option maxRecDepth 100000 in
set_option maxHeartbeats 4000000 in
theorem t_X1_aggregate_190 {l : Launch} {w : xW} {g : Nat → xE} (N : Nat)   (x3 : Int32) (S : xS) (r : xr) (hf : f_X1_aggregate_190 N  x3 S = some r) : ES l w g M_X1_aggregate 190 [(3, .int x3)] [] S r := by
  unfold f_X1_aggregate_190 at hf
  refine es_l (pc' := 191) (ls' := [(3, .int x3)]) (st' := [.int x3]) (fun _ _ k => e_iload_n dX1_aggregate_190 0 rfl k) ?_
  obtain ⟨g61, hf⟩ := xg hf
  exact es_ireturn (ty := .boolean) dX1_aggregate_191 rfl (xbo_n g61) hf
def f_X1_aggregate_137 (N : Nat)  (a2 : Nat) (x3 : Int32) (s0 : Int32) (sa1 : Nat) (S : xS) : Option xr :=
  if xPart sa1 then
  if xPart a2 then
  if x3 = 0 then
    xcV (f_X7_leave N 30 (sI (sI S sa1 5 s0) a2 6 ((sI S sa1 5 s0).1 97 5))) (fun S65 =>
    f_X1_aggregate_190 N x3 S65
    )
  else
    xcV (f_X1_push N 4 (sI (sI S sa1 5 s0) a2 6 ((sI S sa1 5 s0).1 97 5))) (fun S67 =>
    f_X1_aggregate_190 N x3 (sI (sI S67 407 6 ((S67.1 407 6) + 1)) 407 7 ((sI S67 407 6 ((S67.1 407 6) + 1)).1 a2 2))
    )
  else none
  else none
set_option maxRecDepth 100000 in
set_option maxHeartbeats 4000000 in
theorem t_X1_aggregate_137 {l : Launch} {w : xW} {g : Nat → xE} (N : Nat)   (a2 : Nat) (x3 : Int32) (s0 : Int32) (sa1 : Nat) (S : xS) (r : xr) (hf : f_X1_aggregate_137 N  a2 x3 s0 sa1 S = some r) : ES l w g M_X1_aggregate 137 [(0, .ref (w.2.1 + 407)), (2, .ref (w.2.1 + a2)), (3, .int x3)] [.int s0, .ref (w.2.1 + sa1)] S r := by
  unfold f_X1_aggregate_137 at hf
  obtain ⟨g62, hf⟩ := xg hf
  refine es_put xc_4 dX1_aggregate_137 fl_X1_156 (by decide) (by decide) (xPart_lt g62) (cel_pa g62 _ _ _) rfl rfl rfl (by rw [cel_pa g62]; rfl) ?_
  refine es_l (pc' := 142) (ls' := [(0, .ref (w.2.1 + 407)), (2, .ref (w.2.1 + a2)), (3, .int x3)]) (st' := [.ref (w.2.1 + 407), .ref (w.2.1 + a2)]) (fun _ _ k => e_aload_n dX1_aggregate_140 1 rfl (e_aload_n dX1_aggregate_141 0 rfl k)) ?_
  refine es_get (v := .ref (w.2.1 + 97)) xc_1 dX1_aggregate_142 fl_X1_23 (by decide) (by decide) (cel_407 _ _ _) rfl ?_
  refine es_get (v := .int ((sI S sa1 5 s0).1 97 5)) xc_5 dX1_aggregate_145 fl_X1_41 (by decide) (by decide) (cel_97 _ _ _) rfl ?_
  obtain ⟨g63, hf⟩ := xg hf
  refine es_put xc_4 dX1_aggregate_148 fl_X1_111 (by decide) (by decide) (xPart_lt g63) (cel_pa g63 _ _ _) rfl rfl rfl (by rw [cel_pa g63]; rfl) ?_
  refine es_l (pc' := 152) (ls' := [(0, .ref (w.2.1 + 407)), (2, .ref (w.2.1 + a2)), (3, .int x3)]) (st' := [.int x3]) (fun _ _ k => e_iload_n dX1_aggregate_151 2 rfl k) ?_
  refine es_br (c := x3 = 0) (tgt := 181) (pf := 155) (st' := []) (fun _ _ a b => e_if_eq dX1_aggregate_152 rfl a b) (fun c64 => ?_) (fun c64 => ?_)
  · rw [if_pos c64] at hf
    refine es_l (pc' := 182) (ls' := [(0, .ref (w.2.1 + 407)), (2, .ref (w.2.1 + a2)), (3, .int x3)]) (st' := [.ref (w.2.1 + 407)]) (fun _ _ k => e_aload_n dX1_aggregate_181 0 rfl k) ?_
    refine es_get (v := .ref (w.2.1 + 405)) xc_1 dX1_aggregate_182 fl_X1_27 (by decide) (by decide) (cel_407 _ _ _) rfl ?_
    refine es_l (pc' := 187) (ls' := [(0, .ref (w.2.1 + 407)), (2, .ref (w.2.1 + a2)), (3, .int x3)]) (st' := [.int 30, .ref (w.2.1 + 405)]) (fun _ _ k => e_bipush (v := 30) dX1_aggregate_185 (by decide) k) ?_
    refine es_callVV (as := [.int 30]) (rest := []) hf xc_7 dX1_aggregate_187 cs_X1_aggregate_X7_leave ml_X1_114 im_X7_leave se_X7_leave rfl rfl (Nat.le_of_ble_eq_true rfl) (Nat.le_of_ble_eq_true rfl) (by decide) rfl (cel_405 _ _ _) (fun _ e => t_X7_leave N 30 (sI (sI S sa1 5 s0) a2 6 ((sI S sa1 5 s0).1 97 5)) _ e) (by decide) (fun S65 hf => ?_)
    refine es_sub [2] rfl ?_
    exact t_X1_aggregate_190 N x3 S65 r hf
  · rw [if_neg c64] at hf
    refine es_l (pc' := 157) (ls' := [(0, .ref (w.2.1 + 407)), (2, .ref (w.2.1 + a2)), (3, .int x3)]) (st' := [.int 4, .ref (w.2.1 + 407)]) (fun _ _ k => e_aload_n dX1_aggregate_155 0 rfl (e_iconst (v := 4) dX1_aggregate_156 (by decide) k)) ?_
    refine es_callVV (as := [.int 4]) (rest := []) hf xc_1 dX1_aggregate_157 cs_X1_aggregate_X1_push ml_X1_85 im_X1_push se_X1_push rfl rfl (Nat.le_of_ble_eq_true rfl) (Nat.le_of_ble_eq_true rfl) (by decide) rfl (cel_407 _ _ _) (fun _ e => t_X1_push N 4 (sI (sI S sa1 5 s0) a2 6 ((sI S sa1 5 s0).1 97 5)) _ e) (by decide) (fun S67 hf => ?_)
    refine es_l (pc' := 162) (ls' := [(0, .ref (w.2.1 + 407)), (2, .ref (w.2.1 + a2)), (3, .int x3)]) (st' := [.ref (w.2.1 + 407), .ref (w.2.1 + 407)]) (fun _ _ k => e_aload_n dX1_aggregate_160 0 rfl (e_dup dX1_aggregate_161 rfl k)) ?_
    refine es_get (v := .int (S67.1 407 6)) xc_1 dX1_aggregate_162 fl_X1_38 (by decide) (by decide) (cel_407 _ _ _) rfl ?_
    refine es_l (pc' := 167) (ls' := [(0, .ref (w.2.1 + 407)), (2, .ref (w.2.1 + a2)), (3, .int x3)]) (st' := [.int ((S67.1 407 6) + 1), .ref (w.2.1 + 407)]) (fun _ _ k => e_iconst (v := 1) dX1_aggregate_165 (by decide) (e_iadd dX1_aggregate_166 k)) ?_
    refine es_put xc_1 dX1_aggregate_167 fl_X1_38 (by decide) (by decide) (by decide) (cel_407 _ _ _) rfl rfl rfl rfl ?_
    refine es_l (pc' := 172) (ls' := [(0, .ref (w.2.1 + 407)), (2, .ref (w.2.1 + a2)), (3, .int x3)]) (st' := [.ref (w.2.1 + a2), .ref (w.2.1 + 407)]) (fun _ _ k => e_aload_n dX1_aggregate_170 0 rfl (e_aload_n dX1_aggregate_171 1 rfl k)) ?_
    refine es_get (v := .int ((sI S67 407 6 ((S67.1 407 6) + 1)).1 a2 2)) xc_4 dX1_aggregate_172 fl_X1_150 (by decide) (xPart_lt g63) (cel_pa g63 _ _ _) rfl ?_
    refine es_put xc_1 dX1_aggregate_175 fl_X1_31 (by decide) (by decide) (by decide) (cel_407 _ _ _) rfl rfl rfl rfl ?_
    refine es_l (pc' := 190) (ls' := [(0, .ref (w.2.1 + 407)), (2, .ref (w.2.1 + a2)), (3, .int x3)]) (st' := []) (fun _ _ k => e_goto (tgt := 190) dX1_aggregate_178 rfl k) ?_
    refine es_sub [2] rfl ?_
    exact t_X1_aggregate_190 N x3 (sI (sI S67 407 6 ((S67.1 407 6) + 1)) 407 7 ((sI S67 407 6 ((S67.1 407 6) + 1)).1 a2 2)) r hf
def f_X1_aggregate_112 (N : Nat)  (a2 : Nat) (S : xS) : Option xr :=
  xcI (f_X9_passed N 4 S) (fun v70 S69 =>
  if v70 = 0 then
    f_X1_aggregate_137 N a2 v70 ((-1)) a2 S69
  else
    f_X1_aggregate_137 N a2 v70 (S69.1 97 5) a2 S69
  )
set_option maxRecDepth 100000 in
set_option maxHeartbeats 4000000 in
theorem t_X1_aggregate_112 {l : Launch} {w : xW} {g : Nat → xE} (N : Nat)   (a2 : Nat) (S : xS) (r : xr) (hf : f_X1_aggregate_112 N  a2 S = some r) : ES l w g M_X1_aggregate 112 [(0, .ref (w.2.1 + 407)), (2, .ref (w.2.1 + a2))] [] S r := by
  unfold f_X1_aggregate_112 at hf
  refine es_l (pc' := 113) (ls' := [(0, .ref (w.2.1 + 407)), (2, .ref (w.2.1 + a2))]) (st' := [.ref (w.2.1 + 407)]) (fun _ _ k => e_aload_n dX1_aggregate_112 0 rfl k) ?_
  refine es_get (v := .ref (w.2.1 + 1)) xc_1 dX1_aggregate_113 fl_X1_15 (by decide) (by decide) (cel_407 _ _ _) rfl ?_
  refine es_l (pc' := 117) (ls' := [(0, .ref (w.2.1 + 407)), (2, .ref (w.2.1 + a2))]) (st' := [.int 4, .ref (w.2.1 + 1)]) (fun _ _ k => e_iconst (v := 4) dX1_aggregate_116 (by decide) k) ?_
  refine es_callVI (as := [.int 4]) (rest := []) hf xc_9 dX1_aggregate_117 cs_X1_aggregate_X9_passed ml_X1_152 im_X9_passed se_X9_passed rfl rfl (Nat.le_of_ble_eq_true rfl) (Nat.le_of_ble_eq_true rfl) (by decide) rfl (cel_1 _ _ _) (fun _ e => t_X9_passed N 4 S _ e) (by decide) (fun v70 S69 hf => ?_)
  refine es_l (pc' := 123) (ls' := [(3, .int v70), (0, .ref (w.2.1 + 407)), (2, .ref (w.2.1 + a2))]) (st' := [.int v70, .ref (w.2.1 + a2)]) (fun _ _ k => e_istore_n (ls' := [(3, .int v70), (0, .ref (w.2.1 + 407)), (2, .ref (w.2.1 + a2))]) dX1_aggregate_120 (by decide) rfl (e_aload_n dX1_aggregate_121 2 rfl (e_iload_n dX1_aggregate_122 0 rfl k))) ?_
  refine es_br (c := v70 = 0) (tgt := 136) (pf := 126) (st' := [.ref (w.2.1 + a2)]) (fun _ _ a b => e_if_eq dX1_aggregate_123 rfl a b) (fun c71 => ?_) (fun c71 => ?_)
  · rw [if_pos c71] at hf
    refine es_l (pc' := 137) (ls' := [(3, .int v70), (0, .ref (w.2.1 + 407)), (2, .ref (w.2.1 + a2))]) (st' := [.int ((-1)), .ref (w.2.1 + a2)]) (fun _ _ k => e_iconst (v := (-1)) dX1_aggregate_136 (by decide) k) ?_
    refine es_sub [1, 2, 0] rfl ?_
    exact t_X1_aggregate_137 N a2 v70 ((-1)) a2 S69 r hf
  · rw [if_neg c71] at hf
    refine es_l (pc' := 127) (ls' := [(3, .int v70), (0, .ref (w.2.1 + 407)), (2, .ref (w.2.1 + a2))]) (st' := [.ref (w.2.1 + 407), .ref (w.2.1 + a2)]) (fun _ _ k => e_aload_n dX1_aggregate_126 1 rfl k) ?_
    refine es_get (v := .ref (w.2.1 + 97)) xc_1 dX1_aggregate_127 fl_X1_23 (by decide) (by decide) (cel_407 _ _ _) rfl ?_
    refine es_get (v := .int (S69.1 97 5)) xc_5 dX1_aggregate_130 fl_X1_41 (by decide) (by decide) (cel_97 _ _ _) rfl ?_
    refine es_l (pc' := 137) (ls' := [(3, .int v70), (0, .ref (w.2.1 + 407)), (2, .ref (w.2.1 + a2))]) (st' := [.int (S69.1 97 5), .ref (w.2.1 + a2)]) (fun _ _ k => e_goto (tgt := 137) dX1_aggregate_133 rfl k) ?_
    refine es_sub [1, 2, 0] rfl ?_
    exact t_X1_aggregate_137 N a2 v70 (S69.1 97 5) a2 S69 r hf
def f_X1_aggregate (N : Nat)  (S : xS) : Option xr :=
  xcI (f_X9_sort N S) (fun v73 S72 =>
  if v73 < 17 then
    f_X1_aggregate_27 N S72
  else
    if 20 < v73 then
      f_X1_aggregate_27 N S72
    else
      if (S72.1 407 7) = 0 then
        xcV (f_X9_pass N S72) (fun S77 =>
        xcV (f_X7_enter N 29 S77) (fun S79 =>
        xcR (f_X5_addPart N v73 (sI S79 407 8 (S79.1 97 5))) (fun v82 S81 =>
        xcI (f_X7_takeKind N S81) (fun v84 S83 =>
        if xPart v82 then
        if v73 = 17 then
          f_X1_aggregate_112 N v82 (sI S83 v82 2 v84)
        else
          xcV (f_X9_take N 36 (sI S83 v82 2 v84)) (fun S87 =>
          xcI (f_X7_takeField N (S87.1 v82 2) S87) (fun v90 S89 =>
          f_X1_aggregate_112 N v82 (sI S89 v82 3 v90)
          )
          )
        else none
        )
        )
        )
        )
      else
        f_X1_aggregate_27 N S72
  )
set_option maxRecDepth 100000 in
set_option maxHeartbeats 4000000 in
theorem t_X1_aggregate {l : Launch} {w : xW} {g : Nat → xE} (N : Nat)  (S : xS) (r : xr) (hf : f_X1_aggregate N  S = some r) : ES l w g M_X1_aggregate 0 (lv_args 0 [.ref (w.2.1 + 407)]) [] S r := by
  show ES l w g M_X1_aggregate 0 [(0, .ref (w.2.1 + 407))] [] S r
  unfold f_X1_aggregate at hf
  refine es_l (pc' := 1) (ls' := [(0, .ref (w.2.1 + 407))]) (st' := [.ref (w.2.1 + 407)]) (fun _ _ k => e_aload_n dX1_aggregate_0 0 rfl k) ?_
  refine es_get (v := .ref (w.2.1 + 1)) xc_1 dX1_aggregate_1 fl_X1_15 (by decide) (by decide) (cel_407 _ _ _) rfl ?_
  refine es_callVI (as := []) (rest := []) hf xc_9 dX1_aggregate_4 cs_X1_aggregate_X9_sort ml_X1_50 im_X9_sort se_X9_sort rfl rfl (Nat.le_of_ble_eq_true rfl) (Nat.le_of_ble_eq_true rfl) (by decide) rfl (cel_1 _ _ _) (fun _ e => t_X9_sort N  S _ e) (by decide) (fun v73 S72 hf => ?_)
  refine es_l (pc' := 11) (ls' := [(1, .int v73), (0, .ref (w.2.1 + 407))]) (st' := [.int 17, .int v73]) (fun _ _ k => e_istore_n (ls' := [(1, .int v73), (0, .ref (w.2.1 + 407))]) dX1_aggregate_7 (by decide) rfl (e_iload_n dX1_aggregate_8 0 rfl (e_bipush (v := 17) dX1_aggregate_9 (by decide) k))) ?_
  refine es_br (c := v73 < 17) (tgt := 27) (pf := 14) (st' := []) (fun _ _ a b => e_icmp_lt dX1_aggregate_11 rfl a b) (fun c74 => ?_) (fun c74 => ?_)
  · rw [if_pos c74] at hf
    refine es_sub [] rfl ?_
    exact t_X1_aggregate_27 N S72 r hf
  · rw [if_neg c74] at hf
    refine es_l (pc' := 17) (ls' := [(1, .int v73), (0, .ref (w.2.1 + 407))]) (st' := [.int 20, .int v73]) (fun _ _ k => e_iload_n dX1_aggregate_14 0 rfl (e_bipush (v := 20) dX1_aggregate_15 (by decide) k)) ?_
    refine es_br (c := 20 < v73) (tgt := 27) (pf := 20) (st' := []) (fun _ _ a b => e_icmp_gt dX1_aggregate_17 rfl a b) (fun c75 => ?_) (fun c75 => ?_)
    · rw [if_pos c75] at hf
      refine es_sub [] rfl ?_
      exact t_X1_aggregate_27 N S72 r hf
    · rw [if_neg c75] at hf
      refine es_l (pc' := 21) (ls' := [(1, .int v73), (0, .ref (w.2.1 + 407))]) (st' := [.ref (w.2.1 + 407)]) (fun _ _ k => e_aload_n dX1_aggregate_20 1 rfl k) ?_
      refine es_get (v := .int (S72.1 407 7)) xc_1 dX1_aggregate_21 fl_X1_31 (by decide) (by decide) (cel_407 _ _ _) rfl ?_
      refine es_br (c := (S72.1 407 7) = 0) (tgt := 35) (pf := 27) (st' := []) (fun _ _ a b => e_if_eq dX1_aggregate_24 rfl a b) (fun c76 => ?_) (fun c76 => ?_)
      · rw [if_pos c76] at hf
        refine es_l (pc' := 36) (ls' := [(1, .int v73), (0, .ref (w.2.1 + 407))]) (st' := [.ref (w.2.1 + 407)]) (fun _ _ k => e_aload_n dX1_aggregate_35 1 rfl k) ?_
        refine es_get (v := .ref (w.2.1 + 1)) xc_1 dX1_aggregate_36 fl_X1_15 (by decide) (by decide) (cel_407 _ _ _) rfl ?_
        refine es_callVV (as := []) (rest := []) hf xc_9 dX1_aggregate_39 cs_X1_aggregate_X9_pass ml_X1_73 im_X9_pass se_X9_pass rfl rfl (Nat.le_of_ble_eq_true rfl) (Nat.le_of_ble_eq_true rfl) (by decide) rfl (cel_1 _ _ _) (fun _ e => t_X9_pass N  S72 _ e) (by decide) (fun S77 hf => ?_)
        refine es_l (pc' := 43) (ls' := [(1, .int v73), (0, .ref (w.2.1 + 407))]) (st' := [.ref (w.2.1 + 407)]) (fun _ _ k => e_aload_n dX1_aggregate_42 1 rfl k) ?_
        refine es_get (v := .ref (w.2.1 + 405)) xc_1 dX1_aggregate_43 fl_X1_27 (by decide) (by decide) (cel_407 _ _ _) rfl ?_
        refine es_l (pc' := 48) (ls' := [(1, .int v73), (0, .ref (w.2.1 + 407))]) (st' := [.int 29, .ref (w.2.1 + 405)]) (fun _ _ k => e_bipush (v := 29) dX1_aggregate_46 (by decide) k) ?_
        refine es_callVV (as := [.int 29]) (rest := []) hf xc_7 dX1_aggregate_48 cs_X1_aggregate_X7_enter ml_X1_79 im_X7_enter se_X7_enter rfl rfl (Nat.le_of_ble_eq_true rfl) (Nat.le_of_ble_eq_true rfl) (by decide) rfl (cel_405 _ _ _) (fun _ e => t_X7_enter N 29 S77 _ e) (by decide) (fun S79 hf => ?_)
        refine es_l (pc' := 53) (ls' := [(1, .int v73), (0, .ref (w.2.1 + 407))]) (st' := [.ref (w.2.1 + 407), .ref (w.2.1 + 407)]) (fun _ _ k => e_aload_n dX1_aggregate_51 1 rfl (e_aload_n dX1_aggregate_52 1 rfl k)) ?_
        refine es_get (v := .ref (w.2.1 + 97)) xc_1 dX1_aggregate_53 fl_X1_23 (by decide) (by decide) (cel_407 _ _ _) rfl ?_
        refine es_get (v := .int (S79.1 97 5)) xc_5 dX1_aggregate_56 fl_X1_41 (by decide) (by decide) (cel_97 _ _ _) rfl ?_
        refine es_put xc_1 dX1_aggregate_59 fl_X1_108 (by decide) (by decide) (by decide) (cel_407 _ _ _) rfl rfl rfl rfl ?_
        refine es_l (pc' := 63) (ls' := [(1, .int v73), (0, .ref (w.2.1 + 407))]) (st' := [.ref (w.2.1 + 407)]) (fun _ _ k => e_aload_n dX1_aggregate_62 1 rfl k) ?_
        refine es_get (v := .ref (w.2.1 + 97)) xc_1 dX1_aggregate_63 fl_X1_23 (by decide) (by decide) (cel_407 _ _ _) rfl ?_
        refine es_l (pc' := 67) (ls' := [(1, .int v73), (0, .ref (w.2.1 + 407))]) (st' := [.int v73, .ref (w.2.1 + 97)]) (fun _ _ k => e_iload_n dX1_aggregate_66 0 rfl k) ?_
        refine es_callVR (as := [.int v73]) (rest := []) hf xc_5 dX1_aggregate_67 cs_X1_aggregate_X5_addPart ml_X1_62 im_X5_addPart se_X5_addPart rfl rfl (Nat.le_of_ble_eq_true rfl) (Nat.le_of_ble_eq_true rfl) (by decide) rfl (cel_97 _ _ _) (fun _ e => t_X5_addPart N v73 (sI S79 407 8 (S79.1 97 5)) _ e) (by decide) (fun v82 S81 hf => ?_)
        refine es_l (pc' := 73) (ls' := [(2, .ref (w.2.1 + v82)), (1, .int v73), (0, .ref (w.2.1 + 407))]) (st' := [.ref (w.2.1 + 407), .ref (w.2.1 + v82)]) (fun _ _ k => e_astore_n (ls' := [(2, .ref (w.2.1 + v82)), (1, .int v73), (0, .ref (w.2.1 + 407))]) dX1_aggregate_70 (by decide) rfl (e_aload_n dX1_aggregate_71 0 rfl (e_aload_n dX1_aggregate_72 2 rfl k))) ?_
        refine es_get (v := .ref (w.2.1 + 405)) xc_1 dX1_aggregate_73 fl_X1_27 (by decide) (by decide) (cel_407 _ _ _) rfl ?_
        refine es_callVI (as := []) (rest := [.ref (w.2.1 + v82)]) hf xc_7 dX1_aggregate_76 cs_X1_aggregate_X7_takeKind ml_X1_138 im_X7_takeKind se_X7_takeKind rfl rfl (Nat.le_of_ble_eq_true rfl) (Nat.le_of_ble_eq_true rfl) (by decide) rfl (cel_405 _ _ _) (fun _ e => t_X7_takeKind N  S81 _ e) (by decide) (fun v84 S83 hf => ?_)
        obtain ⟨g85, hf⟩ := xg hf
        refine es_put xc_4 dX1_aggregate_79 fl_X1_150 (by decide) (by decide) (xPart_lt g85) (cel_pa g85 _ _ _) rfl rfl rfl (by rw [cel_pa g85]; rfl) ?_
        refine es_l (pc' := 85) (ls' := [(2, .ref (w.2.1 + v82)), (1, .int v73), (0, .ref (w.2.1 + 407))]) (st' := [.int 17, .int v73]) (fun _ _ k => e_iload_n dX1_aggregate_82 1 rfl (e_bipush (v := 17) dX1_aggregate_83 (by decide) k)) ?_
        refine es_br (c := v73 = 17) (tgt := 112) (pf := 88) (st' := []) (fun _ _ a b => e_icmp_eq dX1_aggregate_85 rfl a b) (fun c86 => ?_) (fun c86 => ?_)
        · rw [if_pos c86] at hf
          refine es_sub [2, 0] rfl ?_
          exact t_X1_aggregate_112 N v82 (sI S83 v82 2 v84) r hf
        · rw [if_neg c86] at hf
          refine es_l (pc' := 89) (ls' := [(2, .ref (w.2.1 + v82)), (1, .int v73), (0, .ref (w.2.1 + 407))]) (st' := [.ref (w.2.1 + 407)]) (fun _ _ k => e_aload_n dX1_aggregate_88 2 rfl k) ?_
          refine es_get (v := .ref (w.2.1 + 1)) xc_1 dX1_aggregate_89 fl_X1_15 (by decide) (by decide) (cel_407 _ _ _) rfl ?_
          refine es_l (pc' := 94) (ls' := [(2, .ref (w.2.1 + v82)), (1, .int v73), (0, .ref (w.2.1 + 407))]) (st' := [.int 36, .ref (w.2.1 + 1)]) (fun _ _ k => e_bipush (v := 36) dX1_aggregate_92 (by decide) k) ?_
          refine es_callVV (as := [.int 36]) (rest := []) hf xc_9 dX1_aggregate_94 cs_X1_aggregate_X9_take ml_X1_141 im_X9_take se_X9_take rfl rfl (Nat.le_of_ble_eq_true rfl) (Nat.le_of_ble_eq_true rfl) (by decide) rfl (cel_1 _ _ _) (fun _ e => t_X9_take N 36 (sI S83 v82 2 v84) _ e) (by decide) (fun S87 hf => ?_)
          refine es_l (pc' := 99) (ls' := [(2, .ref (w.2.1 + v82)), (1, .int v73), (0, .ref (w.2.1 + 407))]) (st' := [.ref (w.2.1 + 407), .ref (w.2.1 + v82)]) (fun _ _ k => e_aload_n dX1_aggregate_97 0 rfl (e_aload_n dX1_aggregate_98 2 rfl k)) ?_
          refine es_get (v := .ref (w.2.1 + 405)) xc_1 dX1_aggregate_99 fl_X1_27 (by decide) (by decide) (cel_407 _ _ _) rfl ?_
          refine es_l (pc' := 103) (ls' := [(2, .ref (w.2.1 + v82)), (1, .int v73), (0, .ref (w.2.1 + 407))]) (st' := [.ref (w.2.1 + v82), .ref (w.2.1 + 405), .ref (w.2.1 + v82)]) (fun _ _ k => e_aload_n dX1_aggregate_102 0 rfl k) ?_
          refine es_get (v := .int (S87.1 v82 2)) xc_4 dX1_aggregate_103 fl_X1_150 (by decide) (xPart_lt g85) (cel_pa g85 _ _ _) rfl ?_
          refine es_callVI (as := [.int (S87.1 v82 2)]) (rest := [.ref (w.2.1 + v82)]) hf xc_7 dX1_aggregate_106 cs_X1_aggregate_X7_takeField ml_X1_144 im_X7_takeField se_X7_takeField rfl rfl (Nat.le_of_ble_eq_true rfl) (Nat.le_of_ble_eq_true rfl) (by decide) rfl (cel_405 _ _ _) (fun _ e => t_X7_takeField N (S87.1 v82 2) S87 _ e) (by decide) (fun v90 S89 hf => ?_)
          refine es_put xc_4 dX1_aggregate_109 fl_X1_127 (by decide) (by decide) (xPart_lt g85) (cel_pa g85 _ _ _) rfl rfl rfl (by rw [cel_pa g85]; rfl) ?_
          refine es_sub [2, 0] rfl ?_
          exact t_X1_aggregate_112 N v82 (sI S89 v82 3 v90) r hf
      · rw [if_neg c76] at hf
        refine es_sub [] rfl ?_
        exact t_X1_aggregate_27 N S72 r hf
