def f_X9_add (N : Nat) (x1 : Int32) (S : xS) : Option xr :=
  if xin (S.1 1 5) 500 then
  some (.inl none, sI (sI S 3 ((S.1 1 5).toNatClampNeg) (xnar .char x1)) 1 5 ((S.1 1 5) + 1))
  else none
set_option maxRecDepth 100000 in
set_option maxHeartbeats 4000000 in
theorem t_X9_add {l : Launch} {w : xW} {g : Nat → xE} (N : Nat) (x1 : Int32) (S : xS) (r : xr) (hf : f_X9_add N x1 S = some r) : ES l w g M_X9_add 0 (lv_args 0 [.ref (w.2.1 + 1), .int x1]) [] S r := by
  show ES l w g M_X9_add 0 [(0, .ref (w.2.1 + 1)), (1, .int x1)] [] S r
  unfold f_X9_add at hf
  refine es_l (pc' := 1) (ls' := [(0, .ref (w.2.1 + 1)), (1, .int x1)]) (st' := [.ref (w.2.1 + 1)]) (fun _ _ k => e_aload_n dX9_add_0 0 rfl k) ?_
  refine es_get (v := .ref (w.2.1 + 3)) xc_9 dX9_add_1 fl_X9_15 (by decide) (by decide) (cel_1 _ _ _) rfl ?_
  refine es_l (pc' := 5) (ls' := [(0, .ref (w.2.1 + 1)), (1, .int x1)]) (st' := [.ref (w.2.1 + 1), .ref (w.2.1 + 3)]) (fun _ _ k => e_aload_n dX9_add_4 0 rfl k) ?_
  refine es_get (v := .int (S.1 1 5)) xc_9 dX9_add_5 fl_X9_45 (by decide) (by decide) (cel_1 _ _ _) rfl ?_
  refine es_l (pc' := 9) (ls' := [(0, .ref (w.2.1 + 1)), (1, .int x1)]) (st' := [.int x1, .int (S.1 1 5), .ref (w.2.1 + 3)]) (fun _ _ k => e_iload_n dX9_add_8 1 rfl k) ?_
  obtain ⟨g2, hf⟩ := xg hf
  refine es_cast (y := xnar .char x1) dX9_add_9 (by decide) (cel_3 _) g2 rfl ?_
  refine es_l (pc' := 12) (ls' := [(0, .ref (w.2.1 + 1)), (1, .int x1)]) (st' := [.ref (w.2.1 + 1), .ref (w.2.1 + 1)]) (fun _ _ k => e_aload_n dX9_add_10 0 rfl (e_dup dX9_add_11 rfl k)) ?_
  refine es_get (v := .int (S.1 1 5)) xc_9 dX9_add_12 fl_X9_45 (by decide) (by decide) (cel_1 _ _ _) rfl ?_
  refine es_l (pc' := 17) (ls' := [(0, .ref (w.2.1 + 1)), (1, .int x1)]) (st' := [.int ((S.1 1 5) + 1), .ref (w.2.1 + 1)]) (fun _ _ k => e_iconst (v := 1) dX9_add_15 (by decide) (e_iadd dX9_add_16 k)) ?_
  refine es_put xc_9 dX9_add_17 fl_X9_45 (by decide) (by decide) (by decide) (cel_1 _ _ _) rfl rfl rfl rfl ?_
  exact es_return dX9_add_20 rfl hf
def f_X9_behindBlanks_38 (N : Nat)  (x2 : Int32) (S : xS) : Option xr :=
  some (.inl (some (.inl x2)), S)
set_option maxRecDepth 100000 in
set_option maxHeartbeats 4000000 in
theorem t_X9_behindBlanks_38 {l : Launch} {w : xW} {g : Nat → xE} (N : Nat)   (x2 : Int32) (S : xS) (r : xr) (hf : f_X9_behindBlanks_38 N  x2 S = some r) : ES l w g M_X9_behindBlanks 38 [(2, .int x2)] [] S r := by
  unfold f_X9_behindBlanks_38 at hf
  refine es_l (pc' := 39) (ls' := [(2, .int x2)]) (st' := [.int x2]) (fun _ _ k => e_iload_n dX9_behindBlanks_38 0 rfl k) ?_
  exact es_ireturn (ty := .int) dX9_behindBlanks_39 rfl rfl hf
def f_X9_behindBlanks_32 (N : Nat) (k2 : Int32 → xS → Option xr) (x2 : Int32) (S : xS) : Option xr :=
  k2 (x2 + 1) S
set_option maxRecDepth 100000 in
set_option maxHeartbeats 4000000 in
theorem t_X9_behindBlanks_32 {l : Launch} {w : xW} {g : Nat → xE} (N : Nat) (k2 : Int32 → xS → Option xr) (hk2 : ∀ (x2 : Int32) (S : xS) (r : xr), k2 x2 S = some r → ES l w g M_X9_behindBlanks 2 [(0, .ref (w.2.1 + 1)), (2, .int x2)] [] S r) (x2 : Int32) (S : xS) (r : xr) (hf : f_X9_behindBlanks_32 N k2 x2 S = some r) : ES l w g M_X9_behindBlanks 32 [(0, .ref (w.2.1 + 1)), (2, .int x2)] [] S r := by
  unfold f_X9_behindBlanks_32 at hf
  refine es_l (pc' := 2) (ls' := [(2, .int (x2 + 1)), (0, .ref (w.2.1 + 1))]) (st' := []) (fun _ _ k => e_iinc (v := x2 + 1) (ls' := [(2, .int (x2 + 1)), (0, .ref (w.2.1 + 1))]) dX9_behindBlanks_32 1 rfl rfl (by decide) rfl (e_goto (tgt := 2) dX9_behindBlanks_35 rfl k)) ?_
  refine es_sub [1, 0] rfl ?_
  exact hk2 (x2 + 1) S r hf
def f_X9_behindBlanks_2 (N : Nat)  : Nat → Int32 → xS → Option xr
  | 0, _, _ => none
  | n + 1, x2, S =>
  if (S.1 1 5) ≤ x2 then
    f_X9_behindBlanks_38 N x2 S
  else
    if xin x2 500 then
    if (S.1 3 x2.toNatClampNeg) = 32 then
      f_X9_behindBlanks_32 N (f_X9_behindBlanks_2 N n) x2 S
    else
      if (S.1 3 x2.toNatClampNeg) = 10 then
        f_X9_behindBlanks_32 N (f_X9_behindBlanks_2 N n) x2 S
      else
        f_X9_behindBlanks_38 N x2 S
    else none
set_option maxRecDepth 100000 in
set_option maxHeartbeats 4000000 in
theorem t_X9_behindBlanks_2 {l : Launch} {w : xW} {g : Nat → xE} (N : Nat)   : ∀ (n : Nat) (x2 : Int32) (S : xS) (r : xr), f_X9_behindBlanks_2 N  n x2 S = some r → ES l w g M_X9_behindBlanks 2 [(0, .ref (w.2.1 + 1)), (2, .int x2)] [] S r := by
  intro n
  induction n with
  | zero => intro x2 S r hf; cases hf
  | succ n ih =>
    intro x2 S r hf
    rw [f_X9_behindBlanks_2.eq_2] at hf
    refine es_l (pc' := 4) (ls' := [(0, .ref (w.2.1 + 1)), (2, .int x2)]) (st' := [.ref (w.2.1 + 1), .int x2]) (fun _ _ k => e_iload_n dX9_behindBlanks_2 1 rfl (e_aload_n dX9_behindBlanks_3 0 rfl k)) ?_
    refine es_get (v := .int (S.1 1 5)) xc_9 dX9_behindBlanks_4 fl_X9_45 (by decide) (by decide) (cel_1 _ _ _) rfl ?_
    refine es_br (c := (S.1 1 5) ≤ x2) (tgt := 38) (pf := 10) (st' := []) (fun _ _ a b => e_icmp_ge dX9_behindBlanks_7 rfl a b) (fun c9 => ?_) (fun c9 => ?_)
    · rw [if_pos c9] at hf
      refine es_sub [1] rfl ?_
      exact t_X9_behindBlanks_38 N x2 S r hf
    · rw [if_neg c9] at hf
      refine es_l (pc' := 11) (ls' := [(0, .ref (w.2.1 + 1)), (2, .int x2)]) (st' := [.ref (w.2.1 + 1)]) (fun _ _ k => e_aload_n dX9_behindBlanks_10 0 rfl k) ?_
      refine es_get (v := .ref (w.2.1 + 3)) xc_9 dX9_behindBlanks_11 fl_X9_15 (by decide) (by decide) (cel_1 _ _ _) rfl ?_
      refine es_l (pc' := 15) (ls' := [(0, .ref (w.2.1 + 1)), (2, .int x2)]) (st' := [.int x2, .ref (w.2.1 + 3)]) (fun _ _ k => e_iload_n dX9_behindBlanks_14 1 rfl k) ?_
      obtain ⟨g10, hf⟩ := xg hf
      refine es_cald (v := .int (S.1 3 x2.toNatClampNeg)) dX9_behindBlanks_15 (by decide) (cel_3 _ _ _) g10 rfl ?_
      refine es_l (pc' := 18) (ls' := [(0, .ref (w.2.1 + 1)), (2, .int x2)]) (st' := [.int 32, .int (S.1 3 x2.toNatClampNeg)]) (fun _ _ k => e_bipush (v := 32) dX9_behindBlanks_16 (by decide) k) ?_
      refine es_br (c := (S.1 3 x2.toNatClampNeg) = 32) (tgt := 32) (pf := 21) (st' := []) (fun _ _ a b => e_icmp_eq dX9_behindBlanks_18 rfl a b) (fun c11 => ?_) (fun c11 => ?_)
      · rw [if_pos c11] at hf
        exact t_X9_behindBlanks_32 N (f_X9_behindBlanks_2 N n) ih x2 S r hf
      · rw [if_neg c11] at hf
        refine es_l (pc' := 22) (ls' := [(0, .ref (w.2.1 + 1)), (2, .int x2)]) (st' := [.ref (w.2.1 + 1)]) (fun _ _ k => e_aload_n dX9_behindBlanks_21 0 rfl k) ?_
        refine es_get (v := .ref (w.2.1 + 3)) xc_9 dX9_behindBlanks_22 fl_X9_15 (by decide) (by decide) (cel_1 _ _ _) rfl ?_
        refine es_l (pc' := 26) (ls' := [(0, .ref (w.2.1 + 1)), (2, .int x2)]) (st' := [.int x2, .ref (w.2.1 + 3)]) (fun _ _ k => e_iload_n dX9_behindBlanks_25 1 rfl k) ?_
        refine es_cald (v := .int (S.1 3 x2.toNatClampNeg)) dX9_behindBlanks_26 (by decide) (cel_3 _ _ _) g10 rfl ?_
        refine es_l (pc' := 29) (ls' := [(0, .ref (w.2.1 + 1)), (2, .int x2)]) (st' := [.int 10, .int (S.1 3 x2.toNatClampNeg)]) (fun _ _ k => e_bipush (v := 10) dX9_behindBlanks_27 (by decide) k) ?_
        refine es_br (c := (S.1 3 x2.toNatClampNeg) = 10) (tgt := 32) (pf := 38) (st' := []) (fun _ _ a b => e_icmp_ne dX9_behindBlanks_29 rfl b a) (fun c12 => ?_) (fun c12 => ?_)
        · rw [if_pos c12] at hf
          exact t_X9_behindBlanks_32 N (f_X9_behindBlanks_2 N n) ih x2 S r hf
        · rw [if_neg c12] at hf
          refine es_sub [1] rfl ?_
          exact t_X9_behindBlanks_38 N x2 S r hf
def f_X9_behindBlanks (N : Nat) (x1 : Int32) (S : xS) : Option xr :=
  f_X9_behindBlanks_2 N N x1 S
set_option maxRecDepth 100000 in
set_option maxHeartbeats 4000000 in
theorem t_X9_behindBlanks {l : Launch} {w : xW} {g : Nat → xE} (N : Nat) (x1 : Int32) (S : xS) (r : xr) (hf : f_X9_behindBlanks N x1 S = some r) : ES l w g M_X9_behindBlanks 0 (lv_args 0 [.ref (w.2.1 + 1), .int x1]) [] S r := by
  show ES l w g M_X9_behindBlanks 0 [(0, .ref (w.2.1 + 1)), (1, .int x1)] [] S r
  unfold f_X9_behindBlanks at hf
  refine es_l (pc' := 2) (ls' := [(2, .int x1), (0, .ref (w.2.1 + 1)), (1, .int x1)]) (st' := []) (fun _ _ k => e_iload_n dX9_behindBlanks_0 1 rfl (e_istore_n (ls' := [(2, .int x1), (0, .ref (w.2.1 + 1)), (1, .int x1)]) dX9_behindBlanks_1 (by decide) rfl k)) ?_
  refine es_sub [1, 0] rfl ?_
  exact t_X9_behindBlanks_2 N N x1 S r hf
def f_X9_isLetter_17 (N : Nat)  (s0 : Int32) (S : xS) : Option xr :=
  if xbo s0 then
  some (.inl (some (.inl s0)), S)
  else none
set_option maxRecDepth 100000 in
set_option maxHeartbeats 4000000 in
theorem t_X9_isLetter_17 {l : Launch} {w : xW} {g : Nat → xE} (N : Nat)   (s0 : Int32) (S : xS) (r : xr) (hf : f_X9_isLetter_17 N  s0 S = some r) : ES l w g M_X9_isLetter 17 [] [.int s0] S r := by
  unfold f_X9_isLetter_17 at hf
  obtain ⟨g7, hf⟩ := xg hf
  exact es_ireturn (ty := .boolean) dX9_isLetter_17 rfl (xbo_n g7) hf
def f_X9_isLetter_16 (N : Nat)   (S : xS) : Option xr :=
  f_X9_isLetter_17 N 0 S
set_option maxRecDepth 100000 in
set_option maxHeartbeats 4000000 in
theorem t_X9_isLetter_16 {l : Launch} {w : xW} {g : Nat → xE} (N : Nat)    (S : xS) (r : xr) (hf : f_X9_isLetter_16 N   S = some r) : ES l w g M_X9_isLetter 16 [] [] S r := by
  unfold f_X9_isLetter_16 at hf
  refine es_l (pc' := 17) (ls' := []) (st' := [.int 0]) (fun _ _ k => e_iconst (v := 0) dX9_isLetter_16 (by decide) k) ?_
  exact t_X9_isLetter_17 N 0 S r hf
def f_X9_isLetter (N : Nat) (x0 : Int32) (S : xS) : Option xr :=
  if x0 < 97 then
    f_X9_isLetter_16 N S
  else
    if 122 < x0 then
      f_X9_isLetter_16 N S
    else
      f_X9_isLetter_17 N 1 S
set_option maxRecDepth 100000 in
set_option maxHeartbeats 4000000 in
theorem t_X9_isLetter {l : Launch} {w : xW} {g : Nat → xE} (N : Nat) (x0 : Int32) (S : xS) (r : xr) (hf : f_X9_isLetter N x0 S = some r) : ES l w g M_X9_isLetter 0 (lv_args 0 [.int x0]) [] S r := by
  show ES l w g M_X9_isLetter 0 [(0, .int x0)] [] S r
  unfold f_X9_isLetter at hf
  refine es_l (pc' := 3) (ls' := [(0, .int x0)]) (st' := [.int 97, .int x0]) (fun _ _ k => e_iload_n dX9_isLetter_0 0 rfl (e_bipush (v := 97) dX9_isLetter_1 (by decide) k)) ?_
  refine es_br (c := x0 < 97) (tgt := 16) (pf := 6) (st' := []) (fun _ _ a b => e_icmp_lt dX9_isLetter_3 rfl a b) (fun c8 => ?_) (fun c8 => ?_)
  · rw [if_pos c8] at hf
    refine es_sub [] rfl ?_
    exact t_X9_isLetter_16 N S r hf
  · rw [if_neg c8] at hf
    refine es_l (pc' := 9) (ls' := [(0, .int x0)]) (st' := [.int 122, .int x0]) (fun _ _ k => e_iload_n dX9_isLetter_6 0 rfl (e_bipush (v := 122) dX9_isLetter_7 (by decide) k)) ?_
    refine es_br (c := 122 < x0) (tgt := 16) (pf := 12) (st' := []) (fun _ _ a b => e_icmp_gt dX9_isLetter_9 rfl a b) (fun c9 => ?_) (fun c9 => ?_)
    · rw [if_pos c9] at hf
      refine es_sub [] rfl ?_
      exact t_X9_isLetter_16 N S r hf
    · rw [if_neg c9] at hf
      refine es_l (pc' := 17) (ls' := [(0, .int x0)]) (st' := [.int 1]) (fun _ _ k => e_iconst (v := 1) dX9_isLetter_12 (by decide) (e_goto (tgt := 17) dX9_isLetter_13 rfl k)) ?_
      refine es_sub [] rfl ?_
      exact t_X9_isLetter_17 N 1 S r hf
def f_X9_longer (N : Nat) (y0 : Int64) (x2 : Int32) (S : xS) : Option xr :=
  some (.inl (some (.inr (.inl ((y0 * 32) + (((x2 - 97) + 1 : Int32).toInt64))))), S)
set_option maxRecDepth 100000 in
set_option maxHeartbeats 4000000 in
theorem t_X9_longer {l : Launch} {w : xW} {g : Nat → xE} (N : Nat) (y0 : Int64) (x2 : Int32) (S : xS) (r : xr) (hf : f_X9_longer N y0 x2 S = some r) : ES l w g M_X9_longer 0 (lv_args 0 [.long y0, .int x2]) [] S r := by
  show ES l w g M_X9_longer 0 [(0, .long y0), (2, .int x2)] [] S r
  unfold f_X9_longer at hf
  refine es_l (pc' := 13) (ls' := [(0, .long y0), (2, .int x2)]) (st' := [.long ((y0 * 32) + (((x2 - 97) + 1 : Int32).toInt64))]) (fun _ _ k => e_lload_n dX9_longer_0 0 rfl (e_ldc2 dX9_longer_1 kj_X9_105 (e_lmul dX9_longer_4 (e_iload_n dX9_longer_5 1 rfl (e_bipush (v := 97) dX9_longer_6 (by decide) (e_isub dX9_longer_8 (e_iconst (v := 1) dX9_longer_9 (by decide) (e_iadd dX9_longer_10 (e_i2l (v := ((x2 - 97) + 1 : Int32).toInt64) dX9_longer_11 rfl (e_ladd dX9_longer_12 k)))))))))) ?_
  exact es_lreturn dX9_longer_13 rfl hf
def f_X9_wordOrName_2 (N : Nat)  : Nat → Int64 → Int32 → xS → Option xr
  | 0, _, _, _ => none
  | n + 1, y1, x3, S =>
  if 20 < x3 then
    some (.inl (some (.inl 40)), S)
  else
    if xin x3 21 then
    if (lg_cmp (S.2.1 2 x3.toNatClampNeg) y1) = 0 then
      some (.inl (some (.inl x3)), S)
    else
      f_X9_wordOrName_2 N n y1 (x3 + 1) S
    else none
set_option maxRecDepth 100000 in
set_option maxHeartbeats 4000000 in
theorem t_X9_wordOrName_2 {l : Launch} {w : xW} {g : Nat → xE} (N : Nat)   : ∀ (n : Nat) (y1 : Int64) (x3 : Int32) (S : xS) (r : xr), f_X9_wordOrName_2 N  n y1 x3 S = some r → ES l w g M_X9_wordOrName 2 [(0, .ref (w.2.1 + 1)), (1, .long y1), (3, .int x3)] [] S r := by
  intro n
  induction n with
  | zero => intro y1 x3 S r hf; cases hf
  | succ n ih =>
    intro y1 x3 S r hf
    rw [f_X9_wordOrName_2.eq_2] at hf
    refine es_l (pc' := 5) (ls' := [(0, .ref (w.2.1 + 1)), (1, .long y1), (3, .int x3)]) (st' := [.int 20, .int x3]) (fun _ _ k => e_iload_n dX9_wordOrName_2 2 rfl (e_bipush (v := 20) dX9_wordOrName_3 (by decide) k)) ?_
    refine es_br (c := 20 < x3) (tgt := 27) (pf := 8) (st' := []) (fun _ _ a b => e_icmp_gt dX9_wordOrName_5 rfl a b) (fun c7 => ?_) (fun c7 => ?_)
    · rw [if_pos c7] at hf
      refine es_l (pc' := 29) (ls' := [(0, .ref (w.2.1 + 1)), (1, .long y1), (3, .int x3)]) (st' := [.int 40]) (fun _ _ k => e_bipush (v := 40) dX9_wordOrName_27 (by decide) k) ?_
      exact es_ireturn (ty := .int) dX9_wordOrName_29 rfl rfl hf
    · rw [if_neg c7] at hf
      refine es_l (pc' := 9) (ls' := [(0, .ref (w.2.1 + 1)), (1, .long y1), (3, .int x3)]) (st' := [.ref (w.2.1 + 1)]) (fun _ _ k => e_aload_n dX9_wordOrName_8 0 rfl k) ?_
      refine es_get (v := .ref (w.2.1 + 2)) xc_9 dX9_wordOrName_9 fl_X9_9 (by decide) (by decide) (cel_1 _ _ _) rfl ?_
      refine es_l (pc' := 13) (ls' := [(0, .ref (w.2.1 + 1)), (1, .long y1), (3, .int x3)]) (st' := [.int x3, .ref (w.2.1 + 2)]) (fun _ _ k => e_iload_n dX9_wordOrName_12 2 rfl k) ?_
      obtain ⟨g8, hf⟩ := xg hf
      refine es_lald (v := .long (S.2.1 2 x3.toNatClampNeg)) dX9_wordOrName_13 (by decide) (cel_2 _ _ _) g8 rfl ?_
      refine es_l (pc' := 16) (ls' := [(0, .ref (w.2.1 + 1)), (1, .long y1), (3, .int x3)]) (st' := [.int (lg_cmp (S.2.1 2 x3.toNatClampNeg) y1)]) (fun _ _ k => e_lload_n dX9_wordOrName_14 1 rfl (e_lcmp dX9_wordOrName_15 k)) ?_
      refine es_br (c := (lg_cmp (S.2.1 2 x3.toNatClampNeg) y1) = 0) (tgt := 19) (pf := 21) (st' := []) (fun _ _ a b => e_if_ne dX9_wordOrName_16 rfl b a) (fun c9 => ?_) (fun c9 => ?_)
      · rw [if_pos c9] at hf
        refine es_l (pc' := 20) (ls' := [(0, .ref (w.2.1 + 1)), (1, .long y1), (3, .int x3)]) (st' := [.int x3]) (fun _ _ k => e_iload_n dX9_wordOrName_19 2 rfl k) ?_
        exact es_ireturn (ty := .int) dX9_wordOrName_20 rfl rfl hf
      · rw [if_neg c9] at hf
        refine es_l (pc' := 2) (ls' := [(3, .int (x3 + 1)), (0, .ref (w.2.1 + 1)), (1, .long y1)]) (st' := []) (fun _ _ k => e_iinc (v := x3 + 1) (ls' := [(3, .int (x3 + 1)), (0, .ref (w.2.1 + 1)), (1, .long y1)]) dX9_wordOrName_21 2 rfl rfl (by decide) rfl (e_goto (tgt := 2) dX9_wordOrName_24 rfl k)) ?_
        refine es_sub [1, 2, 0] rfl ?_
        exact ih y1 (x3 + 1) S r hf
def f_X9_wordOrName (N : Nat) (y1 : Int64) (S : xS) : Option xr :=
  f_X9_wordOrName_2 N N y1 1 S
set_option maxRecDepth 100000 in
set_option maxHeartbeats 4000000 in
theorem t_X9_wordOrName {l : Launch} {w : xW} {g : Nat → xE} (N : Nat) (y1 : Int64) (S : xS) (r : xr) (hf : f_X9_wordOrName N y1 S = some r) : ES l w g M_X9_wordOrName 0 (lv_args 0 [.ref (w.2.1 + 1), .long y1]) [] S r := by
  show ES l w g M_X9_wordOrName 0 [(0, .ref (w.2.1 + 1)), (1, .long y1)] [] S r
  unfold f_X9_wordOrName at hf
  refine es_l (pc' := 2) (ls' := [(3, .int 1), (0, .ref (w.2.1 + 1)), (1, .long y1)]) (st' := []) (fun _ _ k => e_iconst (v := 1) dX9_wordOrName_0 (by decide) (e_istore_n (ls' := [(3, .int 1), (0, .ref (w.2.1 + 1)), (1, .long y1)]) dX9_wordOrName_1 (by decide) rfl k)) ?_
  refine es_sub [1, 2, 0] rfl ?_
  exact t_X9_wordOrName_2 N N y1 1 S r hf
def f_X9_cutName_82 (N : Nat)  (x4 : Int32) (s0 : Int32) (s1 : Int32) (S : xS) : Option xr :=
  if xin s1 151 then
  some (.inl (some (.inl x4)), sI S 4 s1.toNatClampNeg s0)
  else none
set_option maxRecDepth 100000 in
set_option maxHeartbeats 4000000 in
theorem t_X9_cutName_82 {l : Launch} {w : xW} {g : Nat → xE} (N : Nat)   (x4 : Int32) (s0 : Int32) (s1 : Int32) (S : xS) (r : xr) (hf : f_X9_cutName_82 N  x4 s0 s1 S = some r) : ES l w g M_X9_cutName 82 [(4, .int x4)] [.int s0, .int s1, .ref (w.2.1 + 4)] S r := by
  unfold f_X9_cutName_82 at hf
  obtain ⟨g25, hf⟩ := xg hf
  refine es_iast dX9_cutName_82 (by decide) (cel_4 _) g25 ?_
  refine es_l (pc' := 85) (ls' := [(4, .int x4)]) (st' := [.int x4]) (fun _ _ k => e_iload dX9_cutName_83 0 rfl k) ?_
  exact es_ireturn (ty := .int) dX9_cutName_85 rfl rfl hf
def f_X9_cutName_45 (N : Nat)  (x1 : Int32) (y2 : Int64) (x4 : Int32) (S : xS) : Option xr :=
  if xin (S.1 1 6) 151 then
  if (x4 - x1) ≤ 8 then
    xcI (f_X9_wordOrName N y2 (sJ S 6 ((S.1 1 6).toNatClampNeg) y2)) (fun v29 S28 =>
    f_X9_cutName_82 N x4 v29 (S.1 1 6) S28
    )
  else
    f_X9_cutName_82 N x4 42 (S.1 1 6) (sJ S 6 ((S.1 1 6).toNatClampNeg) y2)
  else none
set_option maxRecDepth 100000 in
set_option maxHeartbeats 4000000 in
theorem t_X9_cutName_45 {l : Launch} {w : xW} {g : Nat → xE} (N : Nat)   (x1 : Int32) (y2 : Int64) (x4 : Int32) (S : xS) (r : xr) (hf : f_X9_cutName_45 N  x1 y2 x4 S = some r) : ES l w g M_X9_cutName 45 [(0, .ref (w.2.1 + 1)), (1, .int x1), (2, .long y2), (4, .int x4)] [] S r := by
  unfold f_X9_cutName_45 at hf
  refine es_l (pc' := 46) (ls' := [(0, .ref (w.2.1 + 1)), (1, .int x1), (2, .long y2), (4, .int x4)]) (st' := [.ref (w.2.1 + 1)]) (fun _ _ k => e_aload_n dX9_cutName_45 0 rfl k) ?_
  refine es_get (v := .ref (w.2.1 + 6)) xc_9 dX9_cutName_46 fl_X9_26 (by decide) (by decide) (cel_1 _ _ _) rfl ?_
  refine es_l (pc' := 50) (ls' := [(0, .ref (w.2.1 + 1)), (1, .int x1), (2, .long y2), (4, .int x4)]) (st' := [.ref (w.2.1 + 1), .ref (w.2.1 + 6)]) (fun _ _ k => e_aload_n dX9_cutName_49 0 rfl k) ?_
  refine es_get (v := .int (S.1 1 6)) xc_9 dX9_cutName_50 fl_X9_55 (by decide) (by decide) (cel_1 _ _ _) rfl ?_
  refine es_l (pc' := 54) (ls' := [(0, .ref (w.2.1 + 1)), (1, .int x1), (2, .long y2), (4, .int x4)]) (st' := [.long y2, .int (S.1 1 6), .ref (w.2.1 + 6)]) (fun _ _ k => e_lload_n dX9_cutName_53 2 rfl k) ?_
  obtain ⟨g26, hf⟩ := xg hf
  refine es_last dX9_cutName_54 (by decide) (cel_6 _) g26 ?_
  refine es_l (pc' := 56) (ls' := [(0, .ref (w.2.1 + 1)), (1, .int x1), (2, .long y2), (4, .int x4)]) (st' := [.ref (w.2.1 + 1)]) (fun _ _ k => e_aload_n dX9_cutName_55 0 rfl k) ?_
  refine es_get (v := .ref (w.2.1 + 4)) xc_9 dX9_cutName_56 fl_X9_19 (by decide) (by decide) (cel_1 _ _ _) rfl ?_
  refine es_l (pc' := 60) (ls' := [(0, .ref (w.2.1 + 1)), (1, .int x1), (2, .long y2), (4, .int x4)]) (st' := [.ref (w.2.1 + 1), .ref (w.2.1 + 4)]) (fun _ _ k => e_aload_n dX9_cutName_59 0 rfl k) ?_
  refine es_get (v := .int (S.1 1 6)) xc_9 dX9_cutName_60 fl_X9_55 (by decide) (by decide) (cel_1 _ _ _) rfl ?_
  refine es_l (pc' := 69) (ls' := [(0, .ref (w.2.1 + 1)), (1, .int x1), (2, .long y2), (4, .int x4)]) (st' := [.int 8, .int (x4 - x1), .int (S.1 1 6), .ref (w.2.1 + 4)]) (fun _ _ k => e_iload dX9_cutName_63 3 rfl (e_iload_n dX9_cutName_65 1 rfl (e_isub dX9_cutName_66 (e_bipush (v := 8) dX9_cutName_67 (by decide) k)))) ?_
  refine es_br (c := (x4 - x1) ≤ 8) (tgt := 77) (pf := 72) (st' := [.int (S.1 1 6), .ref (w.2.1 + 4)]) (fun _ _ a b => e_icmp_le dX9_cutName_69 rfl a b) (fun c27 => ?_) (fun c27 => ?_)
  · rw [if_pos c27] at hf
    refine es_l (pc' := 79) (ls' := [(0, .ref (w.2.1 + 1)), (1, .int x1), (2, .long y2), (4, .int x4)]) (st' := [.long y2, .ref (w.2.1 + 1), .int (S.1 1 6), .ref (w.2.1 + 4)]) (fun _ _ k => e_aload_n dX9_cutName_77 0 rfl (e_lload_n dX9_cutName_78 2 rfl k)) ?_
    refine es_callVI (as := [.long y2]) (rest := [.int (S.1 1 6), .ref (w.2.1 + 4)]) hf xc_9 dX9_cutName_79 cs_X9_cutName_X9_wordOrName ml_X9_80 im_X9_wordOrName se_X9_wordOrName rfl rfl (Nat.le_of_ble_eq_true rfl) (Nat.le_of_ble_eq_true rfl) (by decide) rfl (cel_1 _ _ _) (fun _ e => t_X9_wordOrName N y2 (sJ S 6 ((S.1 1 6).toNatClampNeg) y2) _ e) (by decide) (fun v29 S28 hf => ?_)
    refine es_sub [3] rfl ?_
    exact t_X9_cutName_82 N x4 v29 (S.1 1 6) S28 r hf
  · rw [if_neg c27] at hf
    refine es_l (pc' := 82) (ls' := [(0, .ref (w.2.1 + 1)), (1, .int x1), (2, .long y2), (4, .int x4)]) (st' := [.int 42, .int (S.1 1 6), .ref (w.2.1 + 4)]) (fun _ _ k => e_bipush (v := 42) dX9_cutName_72 (by decide) (e_goto (tgt := 82) dX9_cutName_74 rfl k)) ?_
    refine es_sub [3] rfl ?_
    exact t_X9_cutName_82 N x4 42 (S.1 1 6) (sJ S 6 ((S.1 1 6).toNatClampNeg) y2) r hf
def f_X9_cutName_5 (N : Nat)  : Nat → Int32 → Int64 → Int32 → xS → Option xr
  | 0, _, _, _, _ => none
  | n + 1, x1, y2, x4, S =>
  if (S.1 1 5) ≤ x4 then
    f_X9_cutName_45 N x1 y2 x4 S
  else
    if xin x4 500 then
    xcI (f_X9_isLetter N (S.1 3 x4.toNatClampNeg) S) (fun v33 S32 =>
    if v33 = 0 then
      f_X9_cutName_45 N x1 y2 x4 S32
    else
      xcJ (f_X9_longer N y2 (S32.1 3 x4.toNatClampNeg) S32) (fun v36 S35 =>
      f_X9_cutName_5 N n x1 v36 (x4 + 1) S35
      )
    )
    else none
set_option maxRecDepth 100000 in
set_option maxHeartbeats 4000000 in
theorem t_X9_cutName_5 {l : Launch} {w : xW} {g : Nat → xE} (N : Nat)   : ∀ (n : Nat) (x1 : Int32) (y2 : Int64) (x4 : Int32) (S : xS) (r : xr), f_X9_cutName_5 N  n x1 y2 x4 S = some r → ES l w g M_X9_cutName 5 [(0, .ref (w.2.1 + 1)), (1, .int x1), (2, .long y2), (4, .int x4)] [] S r := by
  intro n
  induction n with
  | zero => intro x1 y2 x4 S r hf; cases hf
  | succ n ih =>
    intro x1 y2 x4 S r hf
    rw [f_X9_cutName_5.eq_2] at hf
    refine es_l (pc' := 8) (ls' := [(0, .ref (w.2.1 + 1)), (1, .int x1), (2, .long y2), (4, .int x4)]) (st' := [.ref (w.2.1 + 1), .int x4]) (fun _ _ k => e_iload dX9_cutName_5 3 rfl (e_aload_n dX9_cutName_7 0 rfl k)) ?_
    refine es_get (v := .int (S.1 1 5)) xc_9 dX9_cutName_8 fl_X9_45 (by decide) (by decide) (cel_1 _ _ _) rfl ?_
    refine es_br (c := (S.1 1 5) ≤ x4) (tgt := 45) (pf := 14) (st' := []) (fun _ _ a b => e_icmp_ge dX9_cutName_11 rfl a b) (fun c30 => ?_) (fun c30 => ?_)
    · rw [if_pos c30] at hf
      exact t_X9_cutName_45 N x1 y2 x4 S r hf
    · rw [if_neg c30] at hf
      refine es_l (pc' := 15) (ls' := [(0, .ref (w.2.1 + 1)), (1, .int x1), (2, .long y2), (4, .int x4)]) (st' := [.ref (w.2.1 + 1)]) (fun _ _ k => e_aload_n dX9_cutName_14 0 rfl k) ?_
      refine es_get (v := .ref (w.2.1 + 3)) xc_9 dX9_cutName_15 fl_X9_15 (by decide) (by decide) (cel_1 _ _ _) rfl ?_
      refine es_l (pc' := 20) (ls' := [(0, .ref (w.2.1 + 1)), (1, .int x1), (2, .long y2), (4, .int x4)]) (st' := [.int x4, .ref (w.2.1 + 3)]) (fun _ _ k => e_iload dX9_cutName_18 3 rfl k) ?_
      obtain ⟨g31, hf⟩ := xg hf
      refine es_cald (v := .int (S.1 3 x4.toNatClampNeg)) dX9_cutName_20 (by decide) (cel_3 _ _ _) g31 rfl ?_
      refine es_callSI (as := [.int (S.1 3 x4.toNatClampNeg)]) (rest := []) hf dX9_cutName_21 cs_X9_cutName_X9_isLetter ml_X9_64 st_X9_isLetter rfl rfl (Nat.le_of_ble_eq_true rfl) (Nat.le_of_ble_eq_true rfl) (fun _ e => t_X9_isLetter N (S.1 3 x4.toNatClampNeg) S _ e) (by decide) (fun v33 S32 hf => ?_)
      refine es_br (c := v33 = 0) (tgt := 45) (pf := 27) (st' := []) (fun _ _ a b => e_if_eq dX9_cutName_24 rfl a b) (fun c34 => ?_) (fun c34 => ?_)
      · rw [if_pos c34] at hf
        exact t_X9_cutName_45 N x1 y2 x4 S32 r hf
      · rw [if_neg c34] at hf
        refine es_l (pc' := 29) (ls' := [(0, .ref (w.2.1 + 1)), (1, .int x1), (2, .long y2), (4, .int x4)]) (st' := [.ref (w.2.1 + 1), .long y2]) (fun _ _ k => e_lload_n dX9_cutName_27 2 rfl (e_aload_n dX9_cutName_28 0 rfl k)) ?_
        refine es_get (v := .ref (w.2.1 + 3)) xc_9 dX9_cutName_29 fl_X9_15 (by decide) (by decide) (cel_1 _ _ _) rfl ?_
        refine es_l (pc' := 34) (ls' := [(0, .ref (w.2.1 + 1)), (1, .int x1), (2, .long y2), (4, .int x4)]) (st' := [.int x4, .ref (w.2.1 + 3), .long y2]) (fun _ _ k => e_iload dX9_cutName_32 3 rfl k) ?_
        refine es_cald (v := .int (S32.1 3 x4.toNatClampNeg)) dX9_cutName_34 (by decide) (cel_3 _ _ _) g31 rfl ?_
        refine es_callSJ (as := [.long y2, .int (S32.1 3 x4.toNatClampNeg)]) (rest := []) hf dX9_cutName_35 cs_X9_cutName_X9_longer ml_X9_41 st_X9_longer rfl rfl (Nat.le_of_ble_eq_true rfl) (Nat.le_of_ble_eq_true rfl) (fun _ e => t_X9_longer N y2 (S32.1 3 x4.toNatClampNeg) S32 _ e) (by decide) (fun v36 S35 hf => ?_)
        refine es_l (pc' := 5) (ls' := [(4, .int (x4 + 1)), (2, .long v36), (0, .ref (w.2.1 + 1)), (1, .int x1)]) (st' := []) (fun _ _ k => e_lstore_n (ls' := [(2, .long v36), (0, .ref (w.2.1 + 1)), (1, .int x1), (4, .int x4)]) dX9_cutName_38 (by decide) rfl (e_iinc (v := x4 + 1) (ls' := [(4, .int (x4 + 1)), (2, .long v36), (0, .ref (w.2.1 + 1)), (1, .int x1)]) dX9_cutName_39 3 rfl rfl (by decide) rfl (e_goto (tgt := 5) dX9_cutName_42 rfl k))) ?_
        refine es_sub [2, 3, 1, 0] rfl ?_
        exact ih x1 v36 (x4 + 1) S35 r hf
def f_X9_cutName (N : Nat) (x1 : Int32) (S : xS) : Option xr :=
  f_X9_cutName_5 N N x1 0 x1 S
set_option maxRecDepth 100000 in
set_option maxHeartbeats 4000000 in
theorem t_X9_cutName {l : Launch} {w : xW} {g : Nat → xE} (N : Nat) (x1 : Int32) (S : xS) (r : xr) (hf : f_X9_cutName N x1 S = some r) : ES l w g M_X9_cutName 0 (lv_args 0 [.ref (w.2.1 + 1), .int x1]) [] S r := by
  show ES l w g M_X9_cutName 0 [(0, .ref (w.2.1 + 1)), (1, .int x1)] [] S r
  unfold f_X9_cutName at hf
  refine es_l (pc' := 5) (ls' := [(4, .int x1), (2, .long 0), (0, .ref (w.2.1 + 1)), (1, .int x1)]) (st' := []) (fun _ _ k => e_lconst (v := 0) dX9_cutName_0 (by decide) (e_lstore_n (ls' := [(2, .long 0), (0, .ref (w.2.1 + 1)), (1, .int x1)]) dX9_cutName_1 (by decide) rfl (e_iload_n dX9_cutName_2 2 rfl (e_istore (ls' := [(4, .int x1), (2, .long 0), (0, .ref (w.2.1 + 1)), (1, .int x1)]) dX9_cutName_3 (by decide) rfl k)))) ?_
  refine es_sub [2, 3, 1, 0] rfl ?_
  exact t_X9_cutName_5 N N x1 0 x1 S r hf
def f_X9_isDigit_17 (N : Nat)  (s0 : Int32) (S : xS) : Option xr :=
  if xbo s0 then
  some (.inl (some (.inl s0)), S)
  else none
set_option maxRecDepth 100000 in
set_option maxHeartbeats 4000000 in
theorem t_X9_isDigit_17 {l : Launch} {w : xW} {g : Nat → xE} (N : Nat)   (s0 : Int32) (S : xS) (r : xr) (hf : f_X9_isDigit_17 N  s0 S = some r) : ES l w g M_X9_isDigit 17 [] [.int s0] S r := by
  unfold f_X9_isDigit_17 at hf
  obtain ⟨g7, hf⟩ := xg hf
  exact es_ireturn (ty := .boolean) dX9_isDigit_17 rfl (xbo_n g7) hf
def f_X9_isDigit_16 (N : Nat)   (S : xS) : Option xr :=
  f_X9_isDigit_17 N 0 S
set_option maxRecDepth 100000 in
set_option maxHeartbeats 4000000 in
theorem t_X9_isDigit_16 {l : Launch} {w : xW} {g : Nat → xE} (N : Nat)    (S : xS) (r : xr) (hf : f_X9_isDigit_16 N   S = some r) : ES l w g M_X9_isDigit 16 [] [] S r := by
  unfold f_X9_isDigit_16 at hf
  refine es_l (pc' := 17) (ls' := []) (st' := [.int 0]) (fun _ _ k => e_iconst (v := 0) dX9_isDigit_16 (by decide) k) ?_
  exact t_X9_isDigit_17 N 0 S r hf
def f_X9_isDigit (N : Nat) (x0 : Int32) (S : xS) : Option xr :=
  if x0 < 48 then
    f_X9_isDigit_16 N S
  else
    if 57 < x0 then
      f_X9_isDigit_16 N S
    else
      f_X9_isDigit_17 N 1 S
set_option maxRecDepth 100000 in
set_option maxHeartbeats 4000000 in
theorem t_X9_isDigit {l : Launch} {w : xW} {g : Nat → xE} (N : Nat) (x0 : Int32) (S : xS) (r : xr) (hf : f_X9_isDigit N x0 S = some r) : ES l w g M_X9_isDigit 0 (lv_args 0 [.int x0]) [] S r := by
  show ES l w g M_X9_isDigit 0 [(0, .int x0)] [] S r
  unfold f_X9_isDigit at hf
  refine es_l (pc' := 3) (ls' := [(0, .int x0)]) (st' := [.int 48, .int x0]) (fun _ _ k => e_iload_n dX9_isDigit_0 0 rfl (e_bipush (v := 48) dX9_isDigit_1 (by decide) k)) ?_
  refine es_br (c := x0 < 48) (tgt := 16) (pf := 6) (st' := []) (fun _ _ a b => e_icmp_lt dX9_isDigit_3 rfl a b) (fun c8 => ?_) (fun c8 => ?_)
  · rw [if_pos c8] at hf
    refine es_sub [] rfl ?_
    exact t_X9_isDigit_16 N S r hf
  · rw [if_neg c8] at hf
    refine es_l (pc' := 9) (ls' := [(0, .int x0)]) (st' := [.int 57, .int x0]) (fun _ _ k => e_iload_n dX9_isDigit_6 0 rfl (e_bipush (v := 57) dX9_isDigit_7 (by decide) k)) ?_
    refine es_br (c := 57 < x0) (tgt := 16) (pf := 12) (st' := []) (fun _ _ a b => e_icmp_gt dX9_isDigit_9 rfl a b) (fun c9 => ?_) (fun c9 => ?_)
    · rw [if_pos c9] at hf
      refine es_sub [] rfl ?_
      exact t_X9_isDigit_16 N S r hf
    · rw [if_neg c9] at hf
      refine es_l (pc' := 17) (ls' := [(0, .int x0)]) (st' := [.int 1]) (fun _ _ k => e_iconst (v := 1) dX9_isDigit_12 (by decide) (e_goto (tgt := 17) dX9_isDigit_13 rfl k)) ?_
      refine es_sub [] rfl ?_
      exact t_X9_isDigit_17 N 1 S r hf
def f_J9_min_f86c9_11 (N : Nat)  (sy0 : Int64) (S : xS) : Option xr :=
  some (.inl (some (.inr (.inl sy0))), S)
set_option maxRecDepth 100000 in
set_option maxHeartbeats 4000000 in
theorem t_J9_min_f86c9_11 {l : Launch} {w : xW} {g : Nat → xE} (N : Nat)   (sy0 : Int64) (S : xS) (r : xr) (hf : f_J9_min_f86c9_11 N  sy0 S = some r) : ES l w g M_J9_min_f86c9 11 [] [.long sy0] S r := by
  unfold f_J9_min_f86c9_11 at hf
  exact es_lreturn dJ9_min_f86c9_11 rfl hf
def f_J9_min_f86c9 (N : Nat) (y0 : Int64) (y2 : Int64) (S : xS) : Option xr :=
  if 0 < (lg_cmp y0 y2) then
    f_J9_min_f86c9_11 N y2 S
  else
    f_J9_min_f86c9_11 N y0 S
set_option maxRecDepth 100000 in
set_option maxHeartbeats 4000000 in
theorem t_J9_min_f86c9 {l : Launch} {w : xW} {g : Nat → xE} (N : Nat) (y0 : Int64) (y2 : Int64) (S : xS) (r : xr) (hf : f_J9_min_f86c9 N y0 y2 S = some r) : ES l w g M_J9_min_f86c9 0 (lv_args 0 [.long y0, .long y2]) [] S r := by
  show ES l w g M_J9_min_f86c9 0 [(0, .long y0), (2, .long y2)] [] S r
  unfold f_J9_min_f86c9 at hf
  refine es_l (pc' := 3) (ls' := [(0, .long y0), (2, .long y2)]) (st' := [.int (lg_cmp y0 y2)]) (fun _ _ k => e_lload_n dJ9_min_f86c9_0 0 rfl (e_lload_n dJ9_min_f86c9_1 1 rfl (e_lcmp dJ9_min_f86c9_2 k))) ?_
  refine es_br (c := 0 < (lg_cmp y0 y2)) (tgt := 10) (pf := 6) (st' := []) (fun _ _ a b => e_if_gt dJ9_min_f86c9_3 rfl a b) (fun c3 => ?_) (fun c3 => ?_)
  · rw [if_pos c3] at hf
    refine es_l (pc' := 11) (ls' := [(0, .long y0), (2, .long y2)]) (st' := [.long y2]) (fun _ _ k => e_lload_n dJ9_min_f86c9_10 1 rfl k) ?_
    refine es_sub [] rfl ?_
    exact t_J9_min_f86c9_11 N y2 S r hf
  · rw [if_neg c3] at hf
    refine es_l (pc' := 11) (ls' := [(0, .long y0), (2, .long y2)]) (st' := [.long y0]) (fun _ _ k => e_lload_n dJ9_min_f86c9_6 0 rfl (e_goto (tgt := 11) dJ9_min_f86c9_7 rfl k)) ?_
    refine es_sub [] rfl ?_
    exact t_J9_min_f86c9_11 N y0 S r hf
def f_X9_cutNumber_91 (N : Nat)  (x4 : Int32) (s0 : Int32) (s1 : Int32) (S : xS) : Option xr :=
  if xin s1 151 then
  some (.inl (some (.inl x4)), sI S 4 s1.toNatClampNeg s0)
  else none
set_option maxRecDepth 100000 in
set_option maxHeartbeats 4000000 in
theorem t_X9_cutNumber_91 {l : Launch} {w : xW} {g : Nat → xE} (N : Nat)   (x4 : Int32) (s0 : Int32) (s1 : Int32) (S : xS) (r : xr) (hf : f_X9_cutNumber_91 N  x4 s0 s1 S = some r) : ES l w g M_X9_cutNumber 91 [(4, .int x4)] [.int s0, .int s1, .ref (w.2.1 + 4)] S r := by
  unfold f_X9_cutNumber_91 at hf
  obtain ⟨g21, hf⟩ := xg hf
  refine es_iast dX9_cutNumber_91 (by decide) (cel_4 _) g21 ?_
  refine es_l (pc' := 94) (ls' := [(4, .int x4)]) (st' := [.int x4]) (fun _ _ k => e_iload dX9_cutNumber_92 0 rfl k) ?_
  exact es_ireturn (ty := .int) dX9_cutNumber_94 rfl rfl hf
def f_X9_cutNumber_58 (N : Nat)  (y2 : Int64) (x4 : Int32) (S : xS) : Option xr :=
  if xin (S.1 1 6) 151 then
  if (lg_cmp y2 2147483647) ≤ 0 then
    f_X9_cutNumber_91 N x4 41 (S.1 1 6) (sJ S 6 ((S.1 1 6).toNatClampNeg) y2)
  else
    f_X9_cutNumber_91 N x4 42 (S.1 1 6) (sJ S 6 ((S.1 1 6).toNatClampNeg) y2)
  else none
set_option maxRecDepth 100000 in
set_option maxHeartbeats 4000000 in
theorem t_X9_cutNumber_58 {l : Launch} {w : xW} {g : Nat → xE} (N : Nat)   (y2 : Int64) (x4 : Int32) (S : xS) (r : xr) (hf : f_X9_cutNumber_58 N  y2 x4 S = some r) : ES l w g M_X9_cutNumber 58 [(0, .ref (w.2.1 + 1)), (2, .long y2), (4, .int x4)] [] S r := by
  unfold f_X9_cutNumber_58 at hf
  refine es_l (pc' := 59) (ls' := [(0, .ref (w.2.1 + 1)), (2, .long y2), (4, .int x4)]) (st' := [.ref (w.2.1 + 1)]) (fun _ _ k => e_aload_n dX9_cutNumber_58 0 rfl k) ?_
  refine es_get (v := .ref (w.2.1 + 6)) xc_9 dX9_cutNumber_59 fl_X9_26 (by decide) (by decide) (cel_1 _ _ _) rfl ?_
  refine es_l (pc' := 63) (ls' := [(0, .ref (w.2.1 + 1)), (2, .long y2), (4, .int x4)]) (st' := [.ref (w.2.1 + 1), .ref (w.2.1 + 6)]) (fun _ _ k => e_aload_n dX9_cutNumber_62 0 rfl k) ?_
  refine es_get (v := .int (S.1 1 6)) xc_9 dX9_cutNumber_63 fl_X9_55 (by decide) (by decide) (cel_1 _ _ _) rfl ?_
  refine es_l (pc' := 67) (ls' := [(0, .ref (w.2.1 + 1)), (2, .long y2), (4, .int x4)]) (st' := [.long y2, .int (S.1 1 6), .ref (w.2.1 + 6)]) (fun _ _ k => e_lload_n dX9_cutNumber_66 1 rfl k) ?_
  obtain ⟨g22, hf⟩ := xg hf
  refine es_last dX9_cutNumber_67 (by decide) (cel_6 _) g22 ?_
  refine es_l (pc' := 69) (ls' := [(0, .ref (w.2.1 + 1)), (2, .long y2), (4, .int x4)]) (st' := [.ref (w.2.1 + 1)]) (fun _ _ k => e_aload_n dX9_cutNumber_68 0 rfl k) ?_
  refine es_get (v := .ref (w.2.1 + 4)) xc_9 dX9_cutNumber_69 fl_X9_19 (by decide) (by decide) (cel_1 _ _ _) rfl ?_
  refine es_l (pc' := 73) (ls' := [(0, .ref (w.2.1 + 1)), (2, .long y2), (4, .int x4)]) (st' := [.ref (w.2.1 + 1), .ref (w.2.1 + 4)]) (fun _ _ k => e_aload_n dX9_cutNumber_72 0 rfl k) ?_
  refine es_get (v := .int (S.1 1 6)) xc_9 dX9_cutNumber_73 fl_X9_55 (by decide) (by decide) (cel_1 _ _ _) rfl ?_
  refine es_l (pc' := 81) (ls' := [(0, .ref (w.2.1 + 1)), (2, .long y2), (4, .int x4)]) (st' := [.int (lg_cmp y2 2147483647), .int (S.1 1 6), .ref (w.2.1 + 4)]) (fun _ _ k => e_lload_n dX9_cutNumber_76 1 rfl (e_ldc2 dX9_cutNumber_77 kj_X9_96 (e_lcmp dX9_cutNumber_80 k))) ?_
  refine es_br (c := (lg_cmp y2 2147483647) ≤ 0) (tgt := 89) (pf := 84) (st' := [.int (S.1 1 6), .ref (w.2.1 + 4)]) (fun _ _ a b => e_if_le dX9_cutNumber_81 rfl a b) (fun c23 => ?_) (fun c23 => ?_)
  · rw [if_pos c23] at hf
    refine es_l (pc' := 91) (ls' := [(0, .ref (w.2.1 + 1)), (2, .long y2), (4, .int x4)]) (st' := [.int 41, .int (S.1 1 6), .ref (w.2.1 + 4)]) (fun _ _ k => e_bipush (v := 41) dX9_cutNumber_89 (by decide) k) ?_
    refine es_sub [2] rfl ?_
    exact t_X9_cutNumber_91 N x4 41 (S.1 1 6) (sJ S 6 ((S.1 1 6).toNatClampNeg) y2) r hf
  · rw [if_neg c23] at hf
    refine es_l (pc' := 91) (ls' := [(0, .ref (w.2.1 + 1)), (2, .long y2), (4, .int x4)]) (st' := [.int 42, .int (S.1 1 6), .ref (w.2.1 + 4)]) (fun _ _ k => e_bipush (v := 42) dX9_cutNumber_84 (by decide) (e_goto (tgt := 91) dX9_cutNumber_86 rfl k)) ?_
    refine es_sub [2] rfl ?_
    exact t_X9_cutNumber_91 N x4 42 (S.1 1 6) (sJ S 6 ((S.1 1 6).toNatClampNeg) y2) r hf
def f_X9_cutNumber_5 (N : Nat)  : Nat → Int64 → Int32 → xS → Option xr
  | 0, _, _, _ => none
  | n + 1, y2, x4, S =>
  if (S.1 1 5) ≤ x4 then
    f_X9_cutNumber_58 N y2 x4 S
  else
    if xin x4 500 then
    xcI (f_X9_isDigit N (S.1 3 x4.toNatClampNeg) S) (fun v27 S26 =>
    if v27 = 0 then
      f_X9_cutNumber_58 N y2 x4 S26
    else
      xcJ (f_J9_min_f86c9 N (((y2 * 10) + ((S26.1 3 x4.toNatClampNeg : Int32).toInt64)) - 48) 2147483648 S26) (fun v30 S29 =>
      f_X9_cutNumber_5 N n v30 (x4 + 1) S29
      )
    )
    else none
set_option maxRecDepth 100000 in
set_option maxHeartbeats 4000000 in
theorem t_X9_cutNumber_5 {l : Launch} {w : xW} {g : Nat → xE} (N : Nat)   : ∀ (n : Nat) (y2 : Int64) (x4 : Int32) (S : xS) (r : xr), f_X9_cutNumber_5 N  n y2 x4 S = some r → ES l w g M_X9_cutNumber 5 [(0, .ref (w.2.1 + 1)), (2, .long y2), (4, .int x4)] [] S r := by
  intro n
  induction n with
  | zero => intro y2 x4 S r hf; cases hf
  | succ n ih =>
    intro y2 x4 S r hf
    rw [f_X9_cutNumber_5.eq_2] at hf
    refine es_l (pc' := 8) (ls' := [(0, .ref (w.2.1 + 1)), (2, .long y2), (4, .int x4)]) (st' := [.ref (w.2.1 + 1), .int x4]) (fun _ _ k => e_iload dX9_cutNumber_5 2 rfl (e_aload_n dX9_cutNumber_7 0 rfl k)) ?_
    refine es_get (v := .int (S.1 1 5)) xc_9 dX9_cutNumber_8 fl_X9_45 (by decide) (by decide) (cel_1 _ _ _) rfl ?_
    refine es_br (c := (S.1 1 5) ≤ x4) (tgt := 58) (pf := 14) (st' := []) (fun _ _ a b => e_icmp_ge dX9_cutNumber_11 rfl a b) (fun c24 => ?_) (fun c24 => ?_)
    · rw [if_pos c24] at hf
      exact t_X9_cutNumber_58 N y2 x4 S r hf
    · rw [if_neg c24] at hf
      refine es_l (pc' := 15) (ls' := [(0, .ref (w.2.1 + 1)), (2, .long y2), (4, .int x4)]) (st' := [.ref (w.2.1 + 1)]) (fun _ _ k => e_aload_n dX9_cutNumber_14 0 rfl k) ?_
      refine es_get (v := .ref (w.2.1 + 3)) xc_9 dX9_cutNumber_15 fl_X9_15 (by decide) (by decide) (cel_1 _ _ _) rfl ?_
      refine es_l (pc' := 20) (ls' := [(0, .ref (w.2.1 + 1)), (2, .long y2), (4, .int x4)]) (st' := [.int x4, .ref (w.2.1 + 3)]) (fun _ _ k => e_iload dX9_cutNumber_18 2 rfl k) ?_
      obtain ⟨g25, hf⟩ := xg hf
      refine es_cald (v := .int (S.1 3 x4.toNatClampNeg)) dX9_cutNumber_20 (by decide) (cel_3 _ _ _) g25 rfl ?_
      refine es_callSI (as := [.int (S.1 3 x4.toNatClampNeg)]) (rest := []) hf dX9_cutNumber_21 cs_X9_cutNumber_X9_isDigit ml_X9_71 st_X9_isDigit rfl rfl (Nat.le_of_ble_eq_true rfl) (Nat.le_of_ble_eq_true rfl) (fun _ e => t_X9_isDigit N (S.1 3 x4.toNatClampNeg) S _ e) (by decide) (fun v27 S26 hf => ?_)
      refine es_br (c := v27 = 0) (tgt := 58) (pf := 27) (st' := []) (fun _ _ a b => e_if_eq dX9_cutNumber_24 rfl a b) (fun c28 => ?_) (fun c28 => ?_)
      · rw [if_pos c28] at hf
        exact t_X9_cutNumber_58 N y2 x4 S26 r hf
      · rw [if_neg c28] at hf
        refine es_l (pc' := 33) (ls' := [(0, .ref (w.2.1 + 1)), (2, .long y2), (4, .int x4)]) (st' := [.ref (w.2.1 + 1), .long (y2 * 10)]) (fun _ _ k => e_lload_n dX9_cutNumber_27 1 rfl (e_ldc2 dX9_cutNumber_28 kj_X9_84 (e_lmul dX9_cutNumber_31 (e_aload_n dX9_cutNumber_32 0 rfl k)))) ?_
        refine es_get (v := .ref (w.2.1 + 3)) xc_9 dX9_cutNumber_33 fl_X9_15 (by decide) (by decide) (cel_1 _ _ _) rfl ?_
        refine es_l (pc' := 38) (ls' := [(0, .ref (w.2.1 + 1)), (2, .long y2), (4, .int x4)]) (st' := [.int x4, .ref (w.2.1 + 3), .long (y2 * 10)]) (fun _ _ k => e_iload dX9_cutNumber_36 2 rfl k) ?_
        refine es_cald (v := .int (S26.1 3 x4.toNatClampNeg)) dX9_cutNumber_38 (by decide) (cel_3 _ _ _) g25 rfl ?_
        refine es_l (pc' := 48) (ls' := [(0, .ref (w.2.1 + 1)), (2, .long y2), (4, .int x4)]) (st' := [.long 2147483648, .long (((y2 * 10) + ((S26.1 3 x4.toNatClampNeg : Int32).toInt64)) - 48)]) (fun _ _ k => e_i2l (v := (S26.1 3 x4.toNatClampNeg : Int32).toInt64) dX9_cutNumber_39 rfl (e_ladd dX9_cutNumber_40 (e_ldc2 dX9_cutNumber_41 kj_X9_86 (e_lsub dX9_cutNumber_44 (e_ldc2 dX9_cutNumber_45 kj_X9_88 k))))) ?_
        refine es_callSJ (as := [.long (((y2 * 10) + ((S26.1 3 x4.toNatClampNeg : Int32).toInt64)) - 48), .long 2147483648]) (rest := []) hf dX9_cutNumber_48 cs_X9_cutNumber_J9_min_f86c9 ml_X9_90 st_J9_min_f86c9 rfl rfl (Nat.le_of_ble_eq_true rfl) (Nat.le_of_ble_eq_true rfl) (fun _ e => t_J9_min_f86c9 N (((y2 * 10) + ((S26.1 3 x4.toNatClampNeg : Int32).toInt64)) - 48) 2147483648 S26 _ e) (by decide) (fun v30 S29 hf => ?_)
        refine es_l (pc' := 5) (ls' := [(4, .int (x4 + 1)), (2, .long v30), (0, .ref (w.2.1 + 1))]) (st' := []) (fun _ _ k => e_lstore_n (ls' := [(2, .long v30), (0, .ref (w.2.1 + 1)), (4, .int x4)]) dX9_cutNumber_51 (by decide) rfl (e_iinc (v := x4 + 1) (ls' := [(4, .int (x4 + 1)), (2, .long v30), (0, .ref (w.2.1 + 1))]) dX9_cutNumber_52 2 rfl rfl (by decide) rfl (e_goto (tgt := 5) dX9_cutNumber_55 rfl k))) ?_
        refine es_sub [2, 1, 0] rfl ?_
        exact ih v30 (x4 + 1) S29 r hf
def f_X9_cutNumber (N : Nat) (x1 : Int32) (S : xS) : Option xr :=
  f_X9_cutNumber_5 N N 0 x1 S
set_option maxRecDepth 100000 in
set_option maxHeartbeats 4000000 in
theorem t_X9_cutNumber {l : Launch} {w : xW} {g : Nat → xE} (N : Nat) (x1 : Int32) (S : xS) (r : xr) (hf : f_X9_cutNumber N x1 S = some r) : ES l w g M_X9_cutNumber 0 (lv_args 0 [.ref (w.2.1 + 1), .int x1]) [] S r := by
  show ES l w g M_X9_cutNumber 0 [(0, .ref (w.2.1 + 1)), (1, .int x1)] [] S r
  unfold f_X9_cutNumber at hf
  refine es_l (pc' := 5) (ls' := [(4, .int x1), (2, .long 0), (0, .ref (w.2.1 + 1)), (1, .int x1)]) (st' := []) (fun _ _ k => e_lconst (v := 0) dX9_cutNumber_0 (by decide) (e_lstore_n (ls' := [(2, .long 0), (0, .ref (w.2.1 + 1)), (1, .int x1)]) dX9_cutNumber_1 (by decide) rfl (e_iload_n dX9_cutNumber_2 2 rfl (e_istore (ls' := [(4, .int x1), (2, .long 0), (0, .ref (w.2.1 + 1)), (1, .int x1)]) dX9_cutNumber_3 (by decide) rfl k)))) ?_
  refine es_sub [2, 1, 0] rfl ?_
  exact t_X9_cutNumber_5 N N 0 x1 S r hf
def f_X9_cutSign_95 (N : Nat)  (x1 : Int32) (s0 : Int32) (s1 : Int32) (S : xS) : Option xr :=
  if xin s1 151 then
  some (.inl (some (.inl (x1 + 1))), sI S 4 s1.toNatClampNeg s0)
  else none
set_option maxRecDepth 100000 in
set_option maxHeartbeats 4000000 in
theorem t_X9_cutSign_95 {l : Launch} {w : xW} {g : Nat → xE} (N : Nat)   (x1 : Int32) (s0 : Int32) (s1 : Int32) (S : xS) (r : xr) (hf : f_X9_cutSign_95 N  x1 s0 s1 S = some r) : ES l w g M_X9_cutSign 95 [(1, .int x1)] [.int s0, .int s1, .ref (w.2.1 + 4)] S r := by
  unfold f_X9_cutSign_95 at hf
  obtain ⟨g27, hf⟩ := xg hf
  refine es_iast dX9_cutSign_95 (by decide) (cel_4 _) g27 ?_
  refine es_l (pc' := 99) (ls' := [(1, .int x1)]) (st' := [.int (x1 + 1)]) (fun _ _ k => e_iload_n dX9_cutSign_96 0 rfl (e_iconst (v := 1) dX9_cutSign_97 (by decide) (e_iadd dX9_cutSign_98 k))) ?_
  exact es_ireturn (ty := .int) dX9_cutSign_99 rfl rfl hf
def f_X9_cutSign_38 (N : Nat)  (x1 : Int32) (s0 : Int32) (S : xS) : Option xr :=
  if s0 = ((-1)) then
    if xin x1 500 then
    xcI (f_J0_indexOf_0f7a4 N 2 (S.1 3 x1.toNatClampNeg) S) (fun v31 S30 =>
    if v31 = ((-1)) then
      f_X9_cutSign_95 N x1 42 (S30.1 1 6) S30
    else
      f_X9_cutSign_95 N x1 (21 + v31) (S30.1 1 6) S30
    )
    else none
  else
    if xin (S.1 1 6) 151 then
    some (.inl (some (.inl (x1 + 2))), sI S 4 ((S.1 1 6).toNatClampNeg) (37 + s0))
    else none
set_option maxRecDepth 100000 in
set_option maxHeartbeats 4000000 in
theorem t_X9_cutSign_38 {l : Launch} {w : xW} {g : Nat → xE} (N : Nat)   (x1 : Int32) (s0 : Int32) (S : xS) (r : xr) (hf : f_X9_cutSign_38 N  x1 s0 S = some r) : ES l w g M_X9_cutSign 38 [(0, .ref (w.2.1 + 1)), (1, .int x1)] [.int s0] S r := by
  unfold f_X9_cutSign_38 at hf
  refine es_l (pc' := 41) (ls' := [(2, .int s0), (0, .ref (w.2.1 + 1)), (1, .int x1)]) (st' := [.int ((-1)), .int s0]) (fun _ _ k => e_istore_n (ls' := [(2, .int s0), (0, .ref (w.2.1 + 1)), (1, .int x1)]) dX9_cutSign_38 (by decide) rfl (e_iload_n dX9_cutSign_39 0 rfl (e_iconst (v := (-1)) dX9_cutSign_40 (by decide) k))) ?_
  refine es_br (c := s0 = ((-1))) (tgt := 61) (pf := 44) (st' := []) (fun _ _ a b => e_icmp_eq dX9_cutSign_41 rfl a b) (fun c28 => ?_) (fun c28 => ?_)
  · rw [if_pos c28] at hf
    refine es_l (pc' := 64) (ls' := [(2, .int s0), (0, .ref (w.2.1 + 1)), (1, .int x1)]) (st' := [.ref (w.2.1 + 1), .ref (w.2.2 2)]) (fun _ _ k => e_ldcS (i := 2) dX9_cutSign_61 rfl (by decide) (e_aload_n dX9_cutSign_63 1 rfl k)) ?_
    refine es_get (v := .ref (w.2.1 + 3)) xc_9 dX9_cutSign_64 fl_X9_15 (by decide) (by decide) (cel_1 _ _ _) rfl ?_
    refine es_l (pc' := 68) (ls' := [(2, .int s0), (0, .ref (w.2.1 + 1)), (1, .int x1)]) (st' := [.int x1, .ref (w.2.1 + 3), .ref (w.2.2 2)]) (fun _ _ k => e_iload_n dX9_cutSign_67 2 rfl k) ?_
    obtain ⟨g29, hf⟩ := xg hf
    refine es_cald (v := .int (S.1 3 x1.toNatClampNeg)) dX9_cutSign_68 (by decide) (cel_3 _ _ _) g29 rfl ?_
    refine es_callTI (i := 2) (as := [.int (S.1 3 x1.toNatClampNeg)]) (rest := []) hf (by decide) dX9_cutSign_69 cs_X9_cutSign_J0_indexOf_0f7a4 ml_X9_100 im_J0_indexOf_0f7a4 se_J0_indexOf_0f7a4 rfl rfl (Nat.le_of_ble_eq_true rfl) (Nat.le_of_ble_eq_true rfl) rfl (fun _ e => t_J0_indexOf_0f7a4 N 2 (S.1 3 x1.toNatClampNeg) S _ e) (by decide) (fun v31 S30 hf => ?_)
    refine es_l (pc' := 74) (ls' := [(3, .int v31), (2, .int s0), (0, .ref (w.2.1 + 1)), (1, .int x1)]) (st' := [.ref (w.2.1 + 1)]) (fun _ _ k => e_istore_n (ls' := [(3, .int v31), (2, .int s0), (0, .ref (w.2.1 + 1)), (1, .int x1)]) dX9_cutSign_72 (by decide) rfl (e_aload_n dX9_cutSign_73 2 rfl k)) ?_
    refine es_get (v := .ref (w.2.1 + 4)) xc_9 dX9_cutSign_74 fl_X9_19 (by decide) (by decide) (cel_1 _ _ _) rfl ?_
    refine es_l (pc' := 78) (ls' := [(3, .int v31), (2, .int s0), (0, .ref (w.2.1 + 1)), (1, .int x1)]) (st' := [.ref (w.2.1 + 1), .ref (w.2.1 + 4)]) (fun _ _ k => e_aload_n dX9_cutSign_77 2 rfl k) ?_
    refine es_get (v := .int (S30.1 1 6)) xc_9 dX9_cutSign_78 fl_X9_55 (by decide) (by decide) (cel_1 _ _ _) rfl ?_
    refine es_l (pc' := 83) (ls' := [(3, .int v31), (2, .int s0), (0, .ref (w.2.1 + 1)), (1, .int x1)]) (st' := [.int ((-1)), .int v31, .int (S30.1 1 6), .ref (w.2.1 + 4)]) (fun _ _ k => e_iload_n dX9_cutSign_81 0 rfl (e_iconst (v := (-1)) dX9_cutSign_82 (by decide) k)) ?_
    refine es_br (c := v31 = ((-1))) (tgt := 86) (pf := 91) (st' := [.int (S30.1 1 6), .ref (w.2.1 + 4)]) (fun _ _ a b => e_icmp_ne dX9_cutSign_83 rfl b a) (fun c32 => ?_) (fun c32 => ?_)
    · rw [if_pos c32] at hf
      refine es_l (pc' := 95) (ls' := [(3, .int v31), (2, .int s0), (0, .ref (w.2.1 + 1)), (1, .int x1)]) (st' := [.int 42, .int (S30.1 1 6), .ref (w.2.1 + 4)]) (fun _ _ k => e_bipush (v := 42) dX9_cutSign_86 (by decide) (e_goto (tgt := 95) dX9_cutSign_88 rfl k)) ?_
      refine es_sub [3] rfl ?_
      exact t_X9_cutSign_95 N x1 42 (S30.1 1 6) S30 r hf
    · rw [if_neg c32] at hf
      refine es_l (pc' := 95) (ls' := [(3, .int v31), (2, .int s0), (0, .ref (w.2.1 + 1)), (1, .int x1)]) (st' := [.int (21 + v31), .int (S30.1 1 6), .ref (w.2.1 + 4)]) (fun _ _ k => e_bipush (v := 21) dX9_cutSign_91 (by decide) (e_iload_n dX9_cutSign_93 0 rfl (e_iadd dX9_cutSign_94 k))) ?_
      refine es_sub [3] rfl ?_
      exact t_X9_cutSign_95 N x1 (21 + v31) (S30.1 1 6) S30 r hf
  · rw [if_neg c28] at hf
    refine es_l (pc' := 45) (ls' := [(2, .int s0), (0, .ref (w.2.1 + 1)), (1, .int x1)]) (st' := [.ref (w.2.1 + 1)]) (fun _ _ k => e_aload_n dX9_cutSign_44 1 rfl k) ?_
    refine es_get (v := .ref (w.2.1 + 4)) xc_9 dX9_cutSign_45 fl_X9_19 (by decide) (by decide) (cel_1 _ _ _) rfl ?_
    refine es_l (pc' := 49) (ls' := [(2, .int s0), (0, .ref (w.2.1 + 1)), (1, .int x1)]) (st' := [.ref (w.2.1 + 1), .ref (w.2.1 + 4)]) (fun _ _ k => e_aload_n dX9_cutSign_48 1 rfl k) ?_
    refine es_get (v := .int (S.1 1 6)) xc_9 dX9_cutSign_49 fl_X9_55 (by decide) (by decide) (cel_1 _ _ _) rfl ?_
    refine es_l (pc' := 56) (ls' := [(2, .int s0), (0, .ref (w.2.1 + 1)), (1, .int x1)]) (st' := [.int (37 + s0), .int (S.1 1 6), .ref (w.2.1 + 4)]) (fun _ _ k => e_bipush (v := 37) dX9_cutSign_52 (by decide) (e_iload_n dX9_cutSign_54 0 rfl (e_iadd dX9_cutSign_55 k))) ?_
    obtain ⟨g33, hf⟩ := xg hf
    refine es_iast dX9_cutSign_56 (by decide) (cel_4 _) g33 ?_
    refine es_l (pc' := 60) (ls' := [(2, .int s0), (0, .ref (w.2.1 + 1)), (1, .int x1)]) (st' := [.int (x1 + 2)]) (fun _ _ k => e_iload_n dX9_cutSign_57 2 rfl (e_iconst (v := 2) dX9_cutSign_58 (by decide) (e_iadd dX9_cutSign_59 k))) ?_
    exact es_ireturn (ty := .int) dX9_cutSign_60 rfl rfl hf
def f_X9_cutSign_37 (N : Nat)  (x1 : Int32) (S : xS) : Option xr :=
  f_X9_cutSign_38 N x1 ((-1)) S
set_option maxRecDepth 100000 in
set_option maxHeartbeats 4000000 in
theorem t_X9_cutSign_37 {l : Launch} {w : xW} {g : Nat → xE} (N : Nat)   (x1 : Int32) (S : xS) (r : xr) (hf : f_X9_cutSign_37 N  x1 S = some r) : ES l w g M_X9_cutSign 37 [(0, .ref (w.2.1 + 1)), (1, .int x1)] [] S r := by
  unfold f_X9_cutSign_37 at hf
  refine es_l (pc' := 38) (ls' := [(0, .ref (w.2.1 + 1)), (1, .int x1)]) (st' := [.int ((-1))]) (fun _ _ k => e_iconst (v := (-1)) dX9_cutSign_37 (by decide) k) ?_
  exact t_X9_cutSign_38 N x1 ((-1)) S r hf
def f_X9_cutSign (N : Nat) (x1 : Int32) (S : xS) : Option xr :=
  if (S.1 1 5) ≤ (x1 + 1) then
    f_X9_cutSign_37 N x1 S
  else
    if xin (x1 + 1) 500 then
    if (S.1 3 ((x1 + 1).toNatClampNeg)) = 61 then
      if xin x1 500 then
      xcI (f_J0_indexOf_0f7a4 N 1 (S.1 3 x1.toNatClampNeg) S) (fun v39 S38 =>
      f_X9_cutSign_38 N x1 v39 S38
      )
      else none
    else
      f_X9_cutSign_37 N x1 S
    else none
set_option maxRecDepth 100000 in
set_option maxHeartbeats 4000000 in
theorem t_X9_cutSign {l : Launch} {w : xW} {g : Nat → xE} (N : Nat) (x1 : Int32) (S : xS) (r : xr) (hf : f_X9_cutSign N x1 S = some r) : ES l w g M_X9_cutSign 0 (lv_args 0 [.ref (w.2.1 + 1), .int x1]) [] S r := by
  show ES l w g M_X9_cutSign 0 [(0, .ref (w.2.1 + 1)), (1, .int x1)] [] S r
  unfold f_X9_cutSign at hf
  refine es_l (pc' := 4) (ls' := [(0, .ref (w.2.1 + 1)), (1, .int x1)]) (st' := [.ref (w.2.1 + 1), .int (x1 + 1)]) (fun _ _ k => e_iload_n dX9_cutSign_0 1 rfl (e_iconst (v := 1) dX9_cutSign_1 (by decide) (e_iadd dX9_cutSign_2 (e_aload_n dX9_cutSign_3 0 rfl k)))) ?_
  refine es_get (v := .int (S.1 1 5)) xc_9 dX9_cutSign_4 fl_X9_45 (by decide) (by decide) (cel_1 _ _ _) rfl ?_
  refine es_br (c := (S.1 1 5) ≤ (x1 + 1)) (tgt := 37) (pf := 10) (st' := []) (fun _ _ a b => e_icmp_ge dX9_cutSign_7 rfl a b) (fun c34 => ?_) (fun c34 => ?_)
  · rw [if_pos c34] at hf
    exact t_X9_cutSign_37 N x1 S r hf
  · rw [if_neg c34] at hf
    refine es_l (pc' := 11) (ls' := [(0, .ref (w.2.1 + 1)), (1, .int x1)]) (st' := [.ref (w.2.1 + 1)]) (fun _ _ k => e_aload_n dX9_cutSign_10 0 rfl k) ?_
    refine es_get (v := .ref (w.2.1 + 3)) xc_9 dX9_cutSign_11 fl_X9_15 (by decide) (by decide) (cel_1 _ _ _) rfl ?_
    refine es_l (pc' := 17) (ls' := [(0, .ref (w.2.1 + 1)), (1, .int x1)]) (st' := [.int (x1 + 1), .ref (w.2.1 + 3)]) (fun _ _ k => e_iload_n dX9_cutSign_14 1 rfl (e_iconst (v := 1) dX9_cutSign_15 (by decide) (e_iadd dX9_cutSign_16 k))) ?_
    obtain ⟨g35, hf⟩ := xg hf
    refine es_cald (v := .int (S.1 3 ((x1 + 1).toNatClampNeg))) dX9_cutSign_17 (by decide) (cel_3 _ _ _) g35 rfl ?_
    refine es_l (pc' := 20) (ls' := [(0, .ref (w.2.1 + 1)), (1, .int x1)]) (st' := [.int 61, .int (S.1 3 ((x1 + 1).toNatClampNeg))]) (fun _ _ k => e_bipush (v := 61) dX9_cutSign_18 (by decide) k) ?_
    refine es_br (c := (S.1 3 ((x1 + 1).toNatClampNeg)) = 61) (tgt := 23) (pf := 37) (st' := []) (fun _ _ a b => e_icmp_ne dX9_cutSign_20 rfl b a) (fun c36 => ?_) (fun c36 => ?_)
    · rw [if_pos c36] at hf
      refine es_l (pc' := 26) (ls' := [(0, .ref (w.2.1 + 1)), (1, .int x1)]) (st' := [.ref (w.2.1 + 1), .ref (w.2.2 1)]) (fun _ _ k => e_ldcS (i := 1) dX9_cutSign_23 rfl (by decide) (e_aload_n dX9_cutSign_25 0 rfl k)) ?_
      refine es_get (v := .ref (w.2.1 + 3)) xc_9 dX9_cutSign_26 fl_X9_15 (by decide) (by decide) (cel_1 _ _ _) rfl ?_
      refine es_l (pc' := 30) (ls' := [(0, .ref (w.2.1 + 1)), (1, .int x1)]) (st' := [.int x1, .ref (w.2.1 + 3), .ref (w.2.2 1)]) (fun _ _ k => e_iload_n dX9_cutSign_29 1 rfl k) ?_
      obtain ⟨g37, hf⟩ := xg hf
      refine es_cald (v := .int (S.1 3 x1.toNatClampNeg)) dX9_cutSign_30 (by decide) (cel_3 _ _ _) g37 rfl ?_
      refine es_callTI (i := 1) (as := [.int (S.1 3 x1.toNatClampNeg)]) (rest := []) hf (by decide) dX9_cutSign_31 cs_X9_cutSign_J0_indexOf_0f7a4 ml_X9_100 im_J0_indexOf_0f7a4 se_J0_indexOf_0f7a4 rfl rfl (Nat.le_of_ble_eq_true rfl) (Nat.le_of_ble_eq_true rfl) rfl (fun _ e => t_J0_indexOf_0f7a4 N 1 (S.1 3 x1.toNatClampNeg) S _ e) (by decide) (fun v39 S38 hf => ?_)
      refine es_l (pc' := 38) (ls' := [(0, .ref (w.2.1 + 1)), (1, .int x1)]) (st' := [.int v39]) (fun _ _ k => e_goto (tgt := 38) dX9_cutSign_34 rfl k) ?_
      exact t_X9_cutSign_38 N x1 v39 S38 r hf
    · rw [if_neg c36] at hf
      exact t_X9_cutSign_37 N x1 S r hf
def f_X9_cut (N : Nat) (x1 : Int32) (S : xS) : Option xr :=
  if xin x1 500 then
  xcI (f_X9_isLetter N (S.1 3 x1.toNatClampNeg) S) (fun v16 S15 =>
  if v16 = 0 then
    xcI (f_X9_isDigit N (S15.1 3 x1.toNatClampNeg) S15) (fun v19 S18 =>
    if v19 = 0 then
      xcI (f_X9_cutSign N x1 S18) (fun v22 S21 =>
      some (.inl (some (.inl v22)), S21)
      )
    else
      xcI (f_X9_cutNumber N x1 S18) (fun v24 S23 =>
      some (.inl (some (.inl v24)), S23)
      )
    )
  else
    xcI (f_X9_cutName N x1 S15) (fun v26 S25 =>
    some (.inl (some (.inl v26)), S25)
    )
  )
  else none
set_option maxRecDepth 100000 in
set_option maxHeartbeats 4000000 in
theorem t_X9_cut {l : Launch} {w : xW} {g : Nat → xE} (N : Nat) (x1 : Int32) (S : xS) (r : xr) (hf : f_X9_cut N x1 S = some r) : ES l w g M_X9_cut 0 (lv_args 0 [.ref (w.2.1 + 1), .int x1]) [] S r := by
  show ES l w g M_X9_cut 0 [(0, .ref (w.2.1 + 1)), (1, .int x1)] [] S r
  unfold f_X9_cut at hf
  refine es_l (pc' := 1) (ls' := [(0, .ref (w.2.1 + 1)), (1, .int x1)]) (st' := [.ref (w.2.1 + 1)]) (fun _ _ k => e_aload_n dX9_cut_0 0 rfl k) ?_
  refine es_get (v := .ref (w.2.1 + 3)) xc_9 dX9_cut_1 fl_X9_15 (by decide) (by decide) (cel_1 _ _ _) rfl ?_
  refine es_l (pc' := 5) (ls' := [(0, .ref (w.2.1 + 1)), (1, .int x1)]) (st' := [.int x1, .ref (w.2.1 + 3)]) (fun _ _ k => e_iload_n dX9_cut_4 1 rfl k) ?_
  obtain ⟨g14, hf⟩ := xg hf
  refine es_cald (v := .int (S.1 3 x1.toNatClampNeg)) dX9_cut_5 (by decide) (cel_3 _ _ _) g14 rfl ?_
  refine es_callSI (as := [.int (S.1 3 x1.toNatClampNeg)]) (rest := []) hf dX9_cut_6 cs_X9_cut_X9_isLetter ml_X9_64 st_X9_isLetter rfl rfl (Nat.le_of_ble_eq_true rfl) (Nat.le_of_ble_eq_true rfl) (fun _ e => t_X9_isLetter N (S.1 3 x1.toNatClampNeg) S _ e) (by decide) (fun v16 S15 hf => ?_)
  refine es_br (c := v16 = 0) (tgt := 18) (pf := 12) (st' := []) (fun _ _ a b => e_if_eq dX9_cut_9 rfl a b) (fun c17 => ?_) (fun c17 => ?_)
  · rw [if_pos c17] at hf
    refine es_l (pc' := 19) (ls' := [(0, .ref (w.2.1 + 1)), (1, .int x1)]) (st' := [.ref (w.2.1 + 1)]) (fun _ _ k => e_aload_n dX9_cut_18 0 rfl k) ?_
    refine es_get (v := .ref (w.2.1 + 3)) xc_9 dX9_cut_19 fl_X9_15 (by decide) (by decide) (cel_1 _ _ _) rfl ?_
    refine es_l (pc' := 23) (ls' := [(0, .ref (w.2.1 + 1)), (1, .int x1)]) (st' := [.int x1, .ref (w.2.1 + 3)]) (fun _ _ k => e_iload_n dX9_cut_22 1 rfl k) ?_
    refine es_cald (v := .int (S15.1 3 x1.toNatClampNeg)) dX9_cut_23 (by decide) (cel_3 _ _ _) g14 rfl ?_
    refine es_callSI (as := [.int (S15.1 3 x1.toNatClampNeg)]) (rest := []) hf dX9_cut_24 cs_X9_cut_X9_isDigit ml_X9_71 st_X9_isDigit rfl rfl (Nat.le_of_ble_eq_true rfl) (Nat.le_of_ble_eq_true rfl) (fun _ e => t_X9_isDigit N (S15.1 3 x1.toNatClampNeg) S15 _ e) (by decide) (fun v19 S18 hf => ?_)
    refine es_br (c := v19 = 0) (tgt := 36) (pf := 30) (st' := []) (fun _ _ a b => e_if_eq dX9_cut_27 rfl a b) (fun c20 => ?_) (fun c20 => ?_)
    · rw [if_pos c20] at hf
      refine es_l (pc' := 38) (ls' := [(0, .ref (w.2.1 + 1)), (1, .int x1)]) (st' := [.int x1, .ref (w.2.1 + 1)]) (fun _ _ k => e_aload_n dX9_cut_36 0 rfl (e_iload_n dX9_cut_37 1 rfl k)) ?_
      refine es_callVI (as := [.int x1]) (rest := []) hf xc_9 dX9_cut_38 cs_X9_cut_X9_cutSign ml_X9_77 im_X9_cutSign se_X9_cutSign rfl rfl (Nat.le_of_ble_eq_true rfl) (Nat.le_of_ble_eq_true rfl) (by decide) rfl (cel_1 _ _ _) (fun _ e => t_X9_cutSign N x1 S18 _ e) (by decide) (fun v22 S21 hf => ?_)
      exact es_ireturn (ty := .int) dX9_cut_41 rfl rfl hf
    · rw [if_neg c20] at hf
      refine es_l (pc' := 32) (ls' := [(0, .ref (w.2.1 + 1)), (1, .int x1)]) (st' := [.int x1, .ref (w.2.1 + 1)]) (fun _ _ k => e_aload_n dX9_cut_30 0 rfl (e_iload_n dX9_cut_31 1 rfl k)) ?_
      refine es_callVI (as := [.int x1]) (rest := []) hf xc_9 dX9_cut_32 cs_X9_cut_X9_cutNumber ml_X9_74 im_X9_cutNumber se_X9_cutNumber rfl rfl (Nat.le_of_ble_eq_true rfl) (Nat.le_of_ble_eq_true rfl) (by decide) rfl (cel_1 _ _ _) (fun _ e => t_X9_cutNumber N x1 S18 _ e) (by decide) (fun v24 S23 hf => ?_)
      exact es_ireturn (ty := .int) dX9_cut_35 rfl rfl hf
  · rw [if_neg c17] at hf
    refine es_l (pc' := 14) (ls' := [(0, .ref (w.2.1 + 1)), (1, .int x1)]) (st' := [.int x1, .ref (w.2.1 + 1)]) (fun _ _ k => e_aload_n dX9_cut_12 0 rfl (e_iload_n dX9_cut_13 1 rfl k)) ?_
    refine es_callVI (as := [.int x1]) (rest := []) hf xc_9 dX9_cut_14 cs_X9_cut_X9_cutName ml_X9_68 im_X9_cutName se_X9_cutName rfl rfl (Nat.le_of_ble_eq_true rfl) (Nat.le_of_ble_eq_true rfl) (by decide) rfl (cel_1 _ _ _) (fun _ e => t_X9_cutName N x1 S15 _ e) (by decide) (fun v26 S25 hf => ?_)
    exact es_ireturn (ty := .int) dX9_cut_17 rfl rfl hf
def f_X9_scan_99 (N : Nat)  (s0 : Int32) (s1 : Int32) (S : xS) : Option xr :=
  if xin s1 151 then
  some (.inl none, sI S 4 s1.toNatClampNeg s0)
  else none
set_option maxRecDepth 100000 in
set_option maxHeartbeats 4000000 in
theorem t_X9_scan_99 {l : Launch} {w : xW} {g : Nat → xE} (N : Nat)   (s0 : Int32) (s1 : Int32) (S : xS) (r : xr) (hf : f_X9_scan_99 N  s0 s1 S = some r) : ES l w g M_X9_scan 99 [] [.int s0, .int s1, .ref (w.2.1 + 4)] S r := by
  unfold f_X9_scan_99 at hf
  obtain ⟨g25, hf⟩ := xg hf
  refine es_iast dX9_scan_99 (by decide) (cel_4 _) g25 ?_
  exact es_return dX9_scan_100 rfl hf
def f_X9_scan_67 (N : Nat)  (x1 : Int32) (S : xS) : Option xr :=
  if xin (S.1 1 6) 151 then
  if (S.1 1 5) ≤ x1 then
    f_X9_scan_99 N 0 (S.1 1 6) (sI S 5 ((S.1 1 6).toNatClampNeg) x1)
  else
    f_X9_scan_99 N 43 (S.1 1 6) (sI S 5 ((S.1 1 6).toNatClampNeg) x1)
  else none
set_option maxRecDepth 100000 in
set_option maxHeartbeats 4000000 in
theorem t_X9_scan_67 {l : Launch} {w : xW} {g : Nat → xE} (N : Nat)   (x1 : Int32) (S : xS) (r : xr) (hf : f_X9_scan_67 N  x1 S = some r) : ES l w g M_X9_scan 67 [(0, .ref (w.2.1 + 1)), (1, .int x1)] [] S r := by
  unfold f_X9_scan_67 at hf
  refine es_l (pc' := 68) (ls' := [(0, .ref (w.2.1 + 1)), (1, .int x1)]) (st' := [.ref (w.2.1 + 1)]) (fun _ _ k => e_aload_n dX9_scan_67 0 rfl k) ?_
  refine es_get (v := .ref (w.2.1 + 5)) xc_9 dX9_scan_68 fl_X9_23 (by decide) (by decide) (cel_1 _ _ _) rfl ?_
  refine es_l (pc' := 72) (ls' := [(0, .ref (w.2.1 + 1)), (1, .int x1)]) (st' := [.ref (w.2.1 + 1), .ref (w.2.1 + 5)]) (fun _ _ k => e_aload_n dX9_scan_71 0 rfl k) ?_
  refine es_get (v := .int (S.1 1 6)) xc_9 dX9_scan_72 fl_X9_55 (by decide) (by decide) (cel_1 _ _ _) rfl ?_
  refine es_l (pc' := 76) (ls' := [(0, .ref (w.2.1 + 1)), (1, .int x1)]) (st' := [.int x1, .int (S.1 1 6), .ref (w.2.1 + 5)]) (fun _ _ k => e_iload_n dX9_scan_75 1 rfl k) ?_
  obtain ⟨g26, hf⟩ := xg hf
  refine es_iast dX9_scan_76 (by decide) (cel_5 _) g26 ?_
  refine es_l (pc' := 78) (ls' := [(0, .ref (w.2.1 + 1)), (1, .int x1)]) (st' := [.ref (w.2.1 + 1)]) (fun _ _ k => e_aload_n dX9_scan_77 0 rfl k) ?_
  refine es_get (v := .ref (w.2.1 + 4)) xc_9 dX9_scan_78 fl_X9_19 (by decide) (by decide) (cel_1 _ _ _) rfl ?_
  refine es_l (pc' := 82) (ls' := [(0, .ref (w.2.1 + 1)), (1, .int x1)]) (st' := [.ref (w.2.1 + 1), .ref (w.2.1 + 4)]) (fun _ _ k => e_aload_n dX9_scan_81 0 rfl k) ?_
  refine es_get (v := .int (S.1 1 6)) xc_9 dX9_scan_82 fl_X9_55 (by decide) (by decide) (cel_1 _ _ _) rfl ?_
  refine es_l (pc' := 87) (ls' := [(0, .ref (w.2.1 + 1)), (1, .int x1)]) (st' := [.ref (w.2.1 + 1), .int x1, .int (S.1 1 6), .ref (w.2.1 + 4)]) (fun _ _ k => e_iload_n dX9_scan_85 1 rfl (e_aload_n dX9_scan_86 0 rfl k)) ?_
  refine es_get (v := .int (S.1 1 5)) xc_9 dX9_scan_87 fl_X9_45 (by decide) (by decide) (cel_1 _ _ _) rfl ?_
  refine es_br (c := (S.1 1 5) ≤ x1) (tgt := 98) (pf := 93) (st' := [.int (S.1 1 6), .ref (w.2.1 + 4)]) (fun _ _ a b => e_icmp_ge dX9_scan_90 rfl a b) (fun c27 => ?_) (fun c27 => ?_)
  · rw [if_pos c27] at hf
    refine es_l (pc' := 99) (ls' := [(0, .ref (w.2.1 + 1)), (1, .int x1)]) (st' := [.int 0, .int (S.1 1 6), .ref (w.2.1 + 4)]) (fun _ _ k => e_iconst (v := 0) dX9_scan_98 (by decide) k) ?_
    refine es_sub [] rfl ?_
    exact t_X9_scan_99 N 0 (S.1 1 6) (sI S 5 ((S.1 1 6).toNatClampNeg) x1) r hf
  · rw [if_neg c27] at hf
    refine es_l (pc' := 99) (ls' := [(0, .ref (w.2.1 + 1)), (1, .int x1)]) (st' := [.int 43, .int (S.1 1 6), .ref (w.2.1 + 4)]) (fun _ _ k => e_bipush (v := 43) dX9_scan_93 (by decide) (e_goto (tgt := 99) dX9_scan_95 rfl k)) ?_
    refine es_sub [] rfl ?_
    exact t_X9_scan_99 N 43 (S.1 1 6) (sI S 5 ((S.1 1 6).toNatClampNeg) x1) r hf
def f_X9_scan_16 (N : Nat)  : Nat → Int32 → xS → Option xr
  | 0, _, _ => none
  | n + 1, x1, S =>
  if 150 ≤ (S.1 1 6) then
    f_X9_scan_67 N x1 S
  else
    if (S.1 1 5) ≤ x1 then
      f_X9_scan_67 N x1 S
    else
      if xin (S.1 1 6) 151 then
      xcI (f_X9_cut N x1 (sI S 5 ((S.1 1 6).toNatClampNeg) x1)) (fun v32 S31 =>
      xcI (f_X9_behindBlanks N v32 S31) (fun v34 S33 =>
      f_X9_scan_16 N n v34 (sI S33 1 6 ((S33.1 1 6) + 1))
      )
      )
      else none
set_option maxRecDepth 100000 in
set_option maxHeartbeats 4000000 in
theorem t_X9_scan_16 {l : Launch} {w : xW} {g : Nat → xE} (N : Nat)   : ∀ (n : Nat) (x1 : Int32) (S : xS) (r : xr), f_X9_scan_16 N  n x1 S = some r → ES l w g M_X9_scan 16 [(0, .ref (w.2.1 + 1)), (1, .int x1)] [] S r := by
  intro n
  induction n with
  | zero => intro x1 S r hf; cases hf
  | succ n ih =>
    intro x1 S r hf
    rw [f_X9_scan_16.eq_2] at hf
    refine es_l (pc' := 17) (ls' := [(0, .ref (w.2.1 + 1)), (1, .int x1)]) (st' := [.ref (w.2.1 + 1)]) (fun _ _ k => e_aload_n dX9_scan_16 0 rfl k) ?_
    refine es_get (v := .int (S.1 1 6)) xc_9 dX9_scan_17 fl_X9_55 (by decide) (by decide) (cel_1 _ _ _) rfl ?_
    refine es_l (pc' := 23) (ls' := [(0, .ref (w.2.1 + 1)), (1, .int x1)]) (st' := [.int 150, .int (S.1 1 6)]) (fun _ _ k => e_sipush (v := 150) dX9_scan_20 (by decide) k) ?_
    refine es_br (c := 150 ≤ (S.1 1 6)) (tgt := 67) (pf := 26) (st' := []) (fun _ _ a b => e_icmp_ge dX9_scan_23 rfl a b) (fun c28 => ?_) (fun c28 => ?_)
    · rw [if_pos c28] at hf
      exact t_X9_scan_67 N x1 S r hf
    · rw [if_neg c28] at hf
      refine es_l (pc' := 28) (ls' := [(0, .ref (w.2.1 + 1)), (1, .int x1)]) (st' := [.ref (w.2.1 + 1), .int x1]) (fun _ _ k => e_iload_n dX9_scan_26 1 rfl (e_aload_n dX9_scan_27 0 rfl k)) ?_
      refine es_get (v := .int (S.1 1 5)) xc_9 dX9_scan_28 fl_X9_45 (by decide) (by decide) (cel_1 _ _ _) rfl ?_
      refine es_br (c := (S.1 1 5) ≤ x1) (tgt := 67) (pf := 34) (st' := []) (fun _ _ a b => e_icmp_ge dX9_scan_31 rfl a b) (fun c29 => ?_) (fun c29 => ?_)
      · rw [if_pos c29] at hf
        exact t_X9_scan_67 N x1 S r hf
      · rw [if_neg c29] at hf
        refine es_l (pc' := 35) (ls' := [(0, .ref (w.2.1 + 1)), (1, .int x1)]) (st' := [.ref (w.2.1 + 1)]) (fun _ _ k => e_aload_n dX9_scan_34 0 rfl k) ?_
        refine es_get (v := .ref (w.2.1 + 5)) xc_9 dX9_scan_35 fl_X9_23 (by decide) (by decide) (cel_1 _ _ _) rfl ?_
        refine es_l (pc' := 39) (ls' := [(0, .ref (w.2.1 + 1)), (1, .int x1)]) (st' := [.ref (w.2.1 + 1), .ref (w.2.1 + 5)]) (fun _ _ k => e_aload_n dX9_scan_38 0 rfl k) ?_
        refine es_get (v := .int (S.1 1 6)) xc_9 dX9_scan_39 fl_X9_55 (by decide) (by decide) (cel_1 _ _ _) rfl ?_
        refine es_l (pc' := 43) (ls' := [(0, .ref (w.2.1 + 1)), (1, .int x1)]) (st' := [.int x1, .int (S.1 1 6), .ref (w.2.1 + 5)]) (fun _ _ k => e_iload_n dX9_scan_42 1 rfl k) ?_
        obtain ⟨g30, hf⟩ := xg hf
        refine es_iast dX9_scan_43 (by decide) (cel_5 _) g30 ?_
        refine es_l (pc' := 47) (ls' := [(0, .ref (w.2.1 + 1)), (1, .int x1)]) (st' := [.int x1, .ref (w.2.1 + 1), .ref (w.2.1 + 1)]) (fun _ _ k => e_aload_n dX9_scan_44 0 rfl (e_aload_n dX9_scan_45 0 rfl (e_iload_n dX9_scan_46 1 rfl k))) ?_
        refine es_callVI (as := [.int x1]) (rest := [.ref (w.2.1 + 1)]) hf xc_9 dX9_scan_47 cs_X9_scan_X9_cut ml_X9_58 im_X9_cut se_X9_cut rfl rfl (Nat.le_of_ble_eq_true rfl) (Nat.le_of_ble_eq_true rfl) (by decide) rfl (cel_1 _ _ _) (fun _ e => t_X9_cut N x1 (sI S 5 ((S.1 1 6).toNatClampNeg) x1) _ e) (by decide) (fun v32 S31 hf => ?_)
        refine es_callVI (as := [.int v32]) (rest := []) hf xc_9 dX9_scan_50 cs_X9_scan_X9_behindBlanks ml_X9_51 im_X9_behindBlanks se_X9_behindBlanks rfl rfl (Nat.le_of_ble_eq_true rfl) (Nat.le_of_ble_eq_true rfl) (by decide) rfl (cel_1 _ _ _) (fun _ e => t_X9_behindBlanks N v32 S31 _ e) (by decide) (fun v34 S33 hf => ?_)
        refine es_l (pc' := 56) (ls' := [(1, .int v34), (0, .ref (w.2.1 + 1))]) (st' := [.ref (w.2.1 + 1), .ref (w.2.1 + 1)]) (fun _ _ k => e_istore_n (ls' := [(1, .int v34), (0, .ref (w.2.1 + 1))]) dX9_scan_53 (by decide) rfl (e_aload_n dX9_scan_54 1 rfl (e_dup dX9_scan_55 rfl k))) ?_
        refine es_get (v := .int (S33.1 1 6)) xc_9 dX9_scan_56 fl_X9_55 (by decide) (by decide) (cel_1 _ _ _) rfl ?_
        refine es_l (pc' := 61) (ls' := [(1, .int v34), (0, .ref (w.2.1 + 1))]) (st' := [.int ((S33.1 1 6) + 1), .ref (w.2.1 + 1)]) (fun _ _ k => e_iconst (v := 1) dX9_scan_59 (by decide) (e_iadd dX9_scan_60 k)) ?_
        refine es_put xc_9 dX9_scan_61 fl_X9_55 (by decide) (by decide) (by decide) (cel_1 _ _ _) rfl rfl rfl rfl ?_
        refine es_l (pc' := 16) (ls' := [(1, .int v34), (0, .ref (w.2.1 + 1))]) (st' := []) (fun _ _ k => e_goto (tgt := 16) dX9_scan_64 rfl k) ?_
        refine es_sub [1, 0] rfl ?_
        exact ih v34 (sI S33 1 6 ((S33.1 1 6) + 1)) r hf
def f_X9_scan (N : Nat)  (S : xS) : Option xr :=
  xcI (f_X9_behindBlanks N 0 (sI S 1 7 0)) (fun v36 S35 =>
  f_X9_scan_16 N N v36 (sI S35 1 6 0)
  )
set_option maxRecDepth 100000 in
set_option maxHeartbeats 4000000 in
theorem t_X9_scan {l : Launch} {w : xW} {g : Nat → xE} (N : Nat)  (S : xS) (r : xr) (hf : f_X9_scan N  S = some r) : ES l w g M_X9_scan 0 (lv_args 0 [.ref (w.2.1 + 1)]) [] S r := by
  show ES l w g M_X9_scan 0 [(0, .ref (w.2.1 + 1))] [] S r
  unfold f_X9_scan at hf
  refine es_l (pc' := 2) (ls' := [(0, .ref (w.2.1 + 1))]) (st' := [.int 0, .ref (w.2.1 + 1)]) (fun _ _ k => e_aload_n dX9_scan_0 0 rfl (e_iconst (v := 0) dX9_scan_1 (by decide) k)) ?_
  refine es_put xc_9 dX9_scan_2 fl_X9_48 (by decide) (by decide) (by decide) (cel_1 _ _ _) rfl rfl rfl rfl ?_
  refine es_l (pc' := 7) (ls' := [(0, .ref (w.2.1 + 1))]) (st' := [.int 0, .ref (w.2.1 + 1)]) (fun _ _ k => e_aload_n dX9_scan_5 0 rfl (e_iconst (v := 0) dX9_scan_6 (by decide) k)) ?_
  refine es_callVI (as := [.int 0]) (rest := []) hf xc_9 dX9_scan_7 cs_X9_scan_X9_behindBlanks ml_X9_51 im_X9_behindBlanks se_X9_behindBlanks rfl rfl (Nat.le_of_ble_eq_true rfl) (Nat.le_of_ble_eq_true rfl) (by decide) rfl (cel_1 _ _ _) (fun _ e => t_X9_behindBlanks N 0 (sI S 1 7 0) _ e) (by decide) (fun v36 S35 hf => ?_)
  refine es_l (pc' := 13) (ls' := [(1, .int v36), (0, .ref (w.2.1 + 1))]) (st' := [.int 0, .ref (w.2.1 + 1)]) (fun _ _ k => e_istore_n (ls' := [(1, .int v36), (0, .ref (w.2.1 + 1))]) dX9_scan_10 (by decide) rfl (e_aload_n dX9_scan_11 1 rfl (e_iconst (v := 0) dX9_scan_12 (by decide) k))) ?_
  refine es_put xc_9 dX9_scan_13 fl_X9_55 (by decide) (by decide) (by decide) (cel_1 _ _ _) rfl rfl rfl rfl ?_
  refine es_sub [1, 0] rfl ?_
  exact t_X9_scan_16 N N v36 (sI S35 1 6 0) r hf
def f_X9_wrongPlace_27 (N : Nat)  (s0 : Int32) (S : xS) : Option xr :=
  some (.inl (some (.inl s0)), S)
set_option maxRecDepth 100000 in
set_option maxHeartbeats 4000000 in
theorem t_X9_wrongPlace_27 {l : Launch} {w : xW} {g : Nat → xE} (N : Nat)   (s0 : Int32) (S : xS) (r : xr) (hf : f_X9_wrongPlace_27 N  s0 S = some r) : ES l w g M_X9_wrongPlace 27 [] [.int s0] S r := by
  unfold f_X9_wrongPlace_27 at hf
  exact es_ireturn (ty := .int) dX9_wrongPlace_27 rfl rfl hf
def f_X9_wrongPlace (N : Nat)  (S : xS) : Option xr :=
  if xin (S.1 1 7) 151 then
  if (S.1 4 ((S.1 1 7).toNatClampNeg)) = 43 then
    f_X9_wrongPlace_27 N ((-1)) S
  else
    f_X9_wrongPlace_27 N (S.1 5 ((S.1 1 7).toNatClampNeg)) S
  else none
set_option maxRecDepth 100000 in
set_option maxHeartbeats 4000000 in
theorem t_X9_wrongPlace {l : Launch} {w : xW} {g : Nat → xE} (N : Nat)  (S : xS) (r : xr) (hf : f_X9_wrongPlace N  S = some r) : ES l w g M_X9_wrongPlace 0 (lv_args 0 [.ref (w.2.1 + 1)]) [] S r := by
  show ES l w g M_X9_wrongPlace 0 [(0, .ref (w.2.1 + 1))] [] S r
  unfold f_X9_wrongPlace at hf
  refine es_l (pc' := 1) (ls' := [(0, .ref (w.2.1 + 1))]) (st' := [.ref (w.2.1 + 1)]) (fun _ _ k => e_aload_n dX9_wrongPlace_0 0 rfl k) ?_
  refine es_get (v := .ref (w.2.1 + 4)) xc_9 dX9_wrongPlace_1 fl_X9_19 (by decide) (by decide) (cel_1 _ _ _) rfl ?_
  refine es_l (pc' := 5) (ls' := [(0, .ref (w.2.1 + 1))]) (st' := [.ref (w.2.1 + 1), .ref (w.2.1 + 4)]) (fun _ _ k => e_aload_n dX9_wrongPlace_4 0 rfl k) ?_
  refine es_get (v := .int (S.1 1 7)) xc_9 dX9_wrongPlace_5 fl_X9_48 (by decide) (by decide) (cel_1 _ _ _) rfl ?_
  obtain ⟨g5, hf⟩ := xg hf
  refine es_iald (v := .int (S.1 4 ((S.1 1 7).toNatClampNeg))) dX9_wrongPlace_8 (by decide) (cel_4 _ _ _) g5 rfl ?_
  refine es_l (pc' := 11) (ls' := [(0, .ref (w.2.1 + 1))]) (st' := [.int 43, .int (S.1 4 ((S.1 1 7).toNatClampNeg))]) (fun _ _ k => e_bipush (v := 43) dX9_wrongPlace_9 (by decide) k) ?_
  refine es_br (c := (S.1 4 ((S.1 1 7).toNatClampNeg)) = 43) (tgt := 14) (pf := 18) (st' := []) (fun _ _ a b => e_icmp_ne dX9_wrongPlace_11 rfl b a) (fun c6 => ?_) (fun c6 => ?_)
  · rw [if_pos c6] at hf
    refine es_l (pc' := 27) (ls' := [(0, .ref (w.2.1 + 1))]) (st' := [.int ((-1))]) (fun _ _ k => e_iconst (v := (-1)) dX9_wrongPlace_14 (by decide) (e_goto (tgt := 27) dX9_wrongPlace_15 rfl k)) ?_
    refine es_sub [] rfl ?_
    exact t_X9_wrongPlace_27 N ((-1)) S r hf
  · rw [if_neg c6] at hf
    refine es_l (pc' := 19) (ls' := [(0, .ref (w.2.1 + 1))]) (st' := [.ref (w.2.1 + 1)]) (fun _ _ k => e_aload_n dX9_wrongPlace_18 0 rfl k) ?_
    refine es_get (v := .ref (w.2.1 + 5)) xc_9 dX9_wrongPlace_19 fl_X9_23 (by decide) (by decide) (cel_1 _ _ _) rfl ?_
    refine es_l (pc' := 23) (ls' := [(0, .ref (w.2.1 + 1))]) (st' := [.ref (w.2.1 + 1), .ref (w.2.1 + 5)]) (fun _ _ k => e_aload_n dX9_wrongPlace_22 0 rfl k) ?_
    refine es_get (v := .int (S.1 1 7)) xc_9 dX9_wrongPlace_23 fl_X9_48 (by decide) (by decide) (cel_1 _ _ _) rfl ?_
    refine es_iald (v := .int (S.1 5 ((S.1 1 7).toNatClampNeg))) dX9_wrongPlace_26 (by decide) (cel_5 _ _ _) g5 rfl ?_
    refine es_sub [] rfl ?_
    exact t_X9_wrongPlace_27 N (S.1 5 ((S.1 1 7).toNatClampNeg)) S r hf
def f_X10_kindOf_2 (N : Nat)  : Nat → Int32 → Int32 → xS → Option xr
  | 0, _, _, _ => none
  | n + 1, x1, x2, S =>
  if 7 < x2 then
    some (.inl (some (.inl 0)), S)
  else
    if xin x2 8 then
    if (lg_cmp ((((S.2.1 30 x2.toNatClampNeg : Int64).toUInt64 >>> ((x1 : Int32).toInt64.toUInt64 &&& Int64.toUInt64 63)).toInt64) &&& 1) 0) = 0 then
      f_X10_kindOf_2 N n x1 (x2 + 1) S
    else
      some (.inl (some (.inl x2)), S)
    else none
set_option maxRecDepth 100000 in
set_option maxHeartbeats 4000000 in
theorem t_X10_kindOf_2 {l : Launch} {w : xW} {g : Nat → xE} (N : Nat)   : ∀ (n : Nat) (x1 : Int32) (x2 : Int32) (S : xS) (r : xr), f_X10_kindOf_2 N  n x1 x2 S = some r → ES l w g M_X10_kindOf 2 [(0, .ref (w.2.1 + 29)), (1, .int x1), (2, .int x2)] [] S r := by
  intro n
  induction n with
  | zero => intro x1 x2 S r hf; cases hf
  | succ n ih =>
    intro x1 x2 S r hf
    rw [f_X10_kindOf_2.eq_2] at hf
    refine es_l (pc' := 5) (ls' := [(0, .ref (w.2.1 + 29)), (1, .int x1), (2, .int x2)]) (st' := [.int 7, .int x2]) (fun _ _ k => e_iload_n dX10_kindOf_2 2 rfl (e_bipush (v := 7) dX10_kindOf_3 (by decide) k)) ?_
    refine es_br (c := 7 < x2) (tgt := 31) (pf := 8) (st' := []) (fun _ _ a b => e_icmp_gt dX10_kindOf_5 rfl a b) (fun c7 => ?_) (fun c7 => ?_)
    · rw [if_pos c7] at hf
      refine es_l (pc' := 32) (ls' := [(0, .ref (w.2.1 + 29)), (1, .int x1), (2, .int x2)]) (st' := [.int 0]) (fun _ _ k => e_iconst (v := 0) dX10_kindOf_31 (by decide) k) ?_
      exact es_ireturn (ty := .int) dX10_kindOf_32 rfl rfl hf
    · rw [if_neg c7] at hf
      refine es_l (pc' := 9) (ls' := [(0, .ref (w.2.1 + 29)), (1, .int x1), (2, .int x2)]) (st' := [.ref (w.2.1 + 29)]) (fun _ _ k => e_aload_n dX10_kindOf_8 0 rfl k) ?_
      refine es_get (v := .ref (w.2.1 + 30)) xc_10 dX10_kindOf_9 fl_X10_9 (by decide) (by decide) (cel_29 _ _ _) rfl ?_
      refine es_l (pc' := 13) (ls' := [(0, .ref (w.2.1 + 29)), (1, .int x1), (2, .int x2)]) (st' := [.int x2, .ref (w.2.1 + 30)]) (fun _ _ k => e_iload_n dX10_kindOf_12 2 rfl k) ?_
      obtain ⟨g8, hf⟩ := xg hf
      refine es_lald (v := .long (S.2.1 30 x2.toNatClampNeg)) dX10_kindOf_13 (by decide) (cel_30 _ _ _) g8 rfl ?_
      refine es_l (pc' := 20) (ls' := [(0, .ref (w.2.1 + 29)), (1, .int x1), (2, .int x2)]) (st' := [.int (lg_cmp ((((S.2.1 30 x2.toNatClampNeg : Int64).toUInt64 >>> ((x1 : Int32).toInt64.toUInt64 &&& Int64.toUInt64 63)).toInt64) &&& 1) 0)]) (fun _ _ k => e_iload_n dX10_kindOf_14 1 rfl (e_lushr (v := ((S.2.1 30 x2.toNatClampNeg : Int64).toUInt64 >>> ((x1 : Int32).toInt64.toUInt64 &&& Int64.toUInt64 63)).toInt64) dX10_kindOf_15 rfl (e_lconst (v := 1) dX10_kindOf_16 (by decide) (e_land dX10_kindOf_17 (e_lconst (v := 0) dX10_kindOf_18 (by decide) (e_lcmp dX10_kindOf_19 k)))))) ?_
      refine es_br (c := (lg_cmp ((((S.2.1 30 x2.toNatClampNeg : Int64).toUInt64 >>> ((x1 : Int32).toInt64.toUInt64 &&& Int64.toUInt64 63)).toInt64) &&& 1) 0) = 0) (tgt := 25) (pf := 23) (st' := []) (fun _ _ a b => e_if_eq dX10_kindOf_20 rfl a b) (fun c9 => ?_) (fun c9 => ?_)
      · rw [if_pos c9] at hf
        refine es_l (pc' := 2) (ls' := [(2, .int (x2 + 1)), (0, .ref (w.2.1 + 29)), (1, .int x1)]) (st' := []) (fun _ _ k => e_iinc (v := x2 + 1) (ls' := [(2, .int (x2 + 1)), (0, .ref (w.2.1 + 29)), (1, .int x1)]) dX10_kindOf_25 2 rfl rfl (by decide) rfl (e_goto (tgt := 2) dX10_kindOf_28 rfl k)) ?_
        refine es_sub [1, 2, 0] rfl ?_
        exact ih x1 (x2 + 1) S r hf
      · rw [if_neg c9] at hf
        refine es_l (pc' := 24) (ls' := [(0, .ref (w.2.1 + 29)), (1, .int x1), (2, .int x2)]) (st' := [.int x2]) (fun _ _ k => e_iload_n dX10_kindOf_23 2 rfl k) ?_
        exact es_ireturn (ty := .int) dX10_kindOf_24 rfl rfl hf
def f_X10_kindOf (N : Nat) (x1 : Int32) (S : xS) : Option xr :=
  f_X10_kindOf_2 N N x1 1 S
set_option maxRecDepth 100000 in
set_option maxHeartbeats 4000000 in
theorem t_X10_kindOf {l : Launch} {w : xW} {g : Nat → xE} (N : Nat) (x1 : Int32) (S : xS) (r : xr) (hf : f_X10_kindOf N x1 S = some r) : ES l w g M_X10_kindOf 0 (lv_args 0 [.ref (w.2.1 + 29), .int x1]) [] S r := by
  show ES l w g M_X10_kindOf 0 [(0, .ref (w.2.1 + 29)), (1, .int x1)] [] S r
  unfold f_X10_kindOf at hf
  refine es_l (pc' := 2) (ls' := [(2, .int 1), (0, .ref (w.2.1 + 29)), (1, .int x1)]) (st' := []) (fun _ _ k => e_iconst (v := 1) dX10_kindOf_0 (by decide) (e_istore_n (ls' := [(2, .int 1), (0, .ref (w.2.1 + 29)), (1, .int x1)]) dX10_kindOf_1 (by decide) rfl k)) ?_
  refine es_sub [1, 2, 0] rfl ?_
  exact t_X10_kindOf_2 N N x1 1 S r hf
def f_X11_feed_11 (N : Nat)   (S : xS) : Option xr :=
  some (.inr "java/lang/IllegalArgumentException", sE S)
set_option maxRecDepth 100000 in
set_option maxHeartbeats 4000000 in
theorem t_X11_feed_11 {l : Launch} {w : xW} {g : Nat → xE} (N : Nat)    (S : xS) (r : xr) (hf : f_X11_feed_11 N   S = some r) : ES l w g M_X11_feed 11 [] [] S r := by
  unfold f_X11_feed_11 at hf
  exact es_throw (names := ["java/lang/RuntimeException", "java/lang/Exception"]) (by decide +kernel) (by decide +kernel) th_k_X11_59 th_i_IllegalArgumentException th_a_X11_59 th_g_X11_59 dX11_feed_11 dX11_feed_14 dX11_feed_15 dX11_feed_18 (by decide) (by decide) (by decide) hf
def f_X11_feed_47 (N : Nat)  : Nat → Int64 → Int32 → xS → Option xr
  | 0, _, _, _ => none
  | n + 1, y1, x4, S =>
  if x4 < 0 then
    some (.inl (some (.inl (S.1 1 5))), S)
  else
    xcV (f_X9_add N (((((((y1 : Int64).toUInt64 >>> ((8 * x4 : Int32).toInt64.toUInt64 &&& Int64.toUInt64 63)).toInt64) &&& 255 : Int64).toInt32 : Int32).toUInt32 % 65536).toInt32) S) (fun S14 =>
    f_X11_feed_47 N n y1 (x4 + (-1)) S14
    )
set_option maxRecDepth 100000 in
set_option maxHeartbeats 4000000 in
theorem t_X11_feed_47 {l : Launch} {w : xW} {g : Nat → xE} (N : Nat)   : ∀ (n : Nat) (y1 : Int64) (x4 : Int32) (S : xS) (r : xr), f_X11_feed_47 N  n y1 x4 S = some r → ES l w g M_X11_feed 47 [(0, .ref (w.2.1 + 0)), (1, .long y1), (4, .int x4)] [] S r := by
  intro n
  induction n with
  | zero => intro y1 x4 S r hf; cases hf
  | succ n ih =>
    intro y1 x4 S r hf
    rw [f_X11_feed_47.eq_2] at hf
    refine es_l (pc' := 49) (ls' := [(0, .ref (w.2.1 + 0)), (1, .long y1), (4, .int x4)]) (st' := [.int x4]) (fun _ _ k => e_iload dX11_feed_47 2 rfl k) ?_
    refine es_br (c := x4 < 0) (tgt := 78) (pf := 52) (st' := []) (fun _ _ a b => e_if_lt dX11_feed_49 rfl a b) (fun c13 => ?_) (fun c13 => ?_)
    · rw [if_pos c13] at hf
      refine es_l (pc' := 79) (ls' := [(0, .ref (w.2.1 + 0)), (1, .long y1), (4, .int x4)]) (st' := [.ref (w.2.1 + 0)]) (fun _ _ k => e_aload_n dX11_feed_78 0 rfl k) ?_
      refine es_get (v := .ref (w.2.1 + 1)) xc_11 dX11_feed_79 fl_X11_10 (by decide) (by decide) (cel_0 _ _ _) rfl ?_
      refine es_get (v := .int (S.1 1 5)) xc_9 dX11_feed_82 fl_X11_62 (by decide) (by decide) (cel_1 _ _ _) rfl ?_
      exact es_ireturn (ty := .int) dX11_feed_85 rfl rfl hf
    · rw [if_neg c13] at hf
      refine es_l (pc' := 53) (ls' := [(0, .ref (w.2.1 + 0)), (1, .long y1), (4, .int x4)]) (st' := [.ref (w.2.1 + 0)]) (fun _ _ k => e_aload_n dX11_feed_52 0 rfl k) ?_
      refine es_get (v := .ref (w.2.1 + 1)) xc_11 dX11_feed_53 fl_X11_10 (by decide) (by decide) (cel_0 _ _ _) rfl ?_
      refine es_l (pc' := 69) (ls' := [(0, .ref (w.2.1 + 0)), (1, .long y1), (4, .int x4)]) (st' := [.int (((((((y1 : Int64).toUInt64 >>> ((8 * x4 : Int32).toInt64.toUInt64 &&& Int64.toUInt64 63)).toInt64) &&& 255 : Int64).toInt32 : Int32).toUInt32 % 65536).toInt32), .ref (w.2.1 + 1)]) (fun _ _ k => e_lload_n dX11_feed_56 1 rfl (e_bipush (v := 8) dX11_feed_57 (by decide) (e_iload dX11_feed_59 2 rfl (e_imul dX11_feed_61 (e_lushr (v := ((y1 : Int64).toUInt64 >>> ((8 * x4 : Int32).toInt64.toUInt64 &&& Int64.toUInt64 63)).toInt64) dX11_feed_62 rfl (e_ldc2 dX11_feed_63 kj_X11_68 (e_land dX11_feed_66 (e_l2i (v := ((((y1 : Int64).toUInt64 >>> ((8 * x4 : Int32).toInt64.toUInt64 &&& Int64.toUInt64 63)).toInt64) &&& 255 : Int64).toInt32) dX11_feed_67 rfl (e_i2c (v := ((((((y1 : Int64).toUInt64 >>> ((8 * x4 : Int32).toInt64.toUInt64 &&& Int64.toUInt64 63)).toInt64) &&& 255 : Int64).toInt32 : Int32).toUInt32 % 65536).toInt32) dX11_feed_68 rfl k))))))))) ?_
      refine es_callVV (as := [.int (((((((y1 : Int64).toUInt64 >>> ((8 * x4 : Int32).toInt64.toUInt64 &&& Int64.toUInt64 63)).toInt64) &&& 255 : Int64).toInt32 : Int32).toUInt32 % 65536).toInt32)]) (rest := []) hf xc_9 dX11_feed_69 cs_X11_feed_X9_add ml_X11_70 im_X9_add se_X9_add rfl rfl (Nat.le_of_ble_eq_true rfl) (Nat.le_of_ble_eq_true rfl) (by decide) rfl (cel_1 _ _ _) (fun _ e => t_X9_add N (((((((y1 : Int64).toUInt64 >>> ((8 * x4 : Int32).toInt64.toUInt64 &&& Int64.toUInt64 63)).toInt64) &&& 255 : Int64).toInt32 : Int32).toUInt32 % 65536).toInt32) S _ e) (by decide) (fun S14 hf => ?_)
      refine es_l (pc' := 47) (ls' := [(4, .int (x4 + (-1))), (0, .ref (w.2.1 + 0)), (1, .long y1)]) (st' := []) (fun _ _ k => e_iinc (v := x4 + (-1)) (ls' := [(4, .int (x4 + (-1))), (0, .ref (w.2.1 + 0)), (1, .long y1)]) dX11_feed_72 2 rfl rfl (by decide) rfl (e_goto (tgt := 47) dX11_feed_75 rfl k)) ?_
      refine es_sub [1, 2, 0] rfl ?_
      exact ih y1 (x4 + (-1)) S14 r hf
def f_X11_feed (N : Nat) (y1 : Int64) (x3 : Int32) (S : xS) : Option xr :=
  if x3 < 1 then
    f_X11_feed_11 N S
  else
    if x3 ≤ 8 then
      if ((S.1 1 5) + x3) ≤ 500 then
        f_X11_feed_47 N N y1 (x3 - 1) S
      else
        some (.inr "java/lang/IllegalStateException", sE S)
    else
      f_X11_feed_11 N S
set_option maxRecDepth 100000 in
set_option maxHeartbeats 4000000 in
theorem t_X11_feed {l : Launch} {w : xW} {g : Nat → xE} (N : Nat) (y1 : Int64) (x3 : Int32) (S : xS) (r : xr) (hf : f_X11_feed N y1 x3 S = some r) : ES l w g M_X11_feed 0 (lv_args 0 [.ref (w.2.1 + 0), .long y1, .int x3]) [] S r := by
  show ES l w g M_X11_feed 0 [(0, .ref (w.2.1 + 0)), (1, .long y1), (3, .int x3)] [] S r
  unfold f_X11_feed at hf
  refine es_l (pc' := 2) (ls' := [(0, .ref (w.2.1 + 0)), (1, .long y1), (3, .int x3)]) (st' := [.int 1, .int x3]) (fun _ _ k => e_iload_n dX11_feed_0 2 rfl (e_iconst (v := 1) dX11_feed_1 (by decide) k)) ?_
  refine es_br (c := x3 < 1) (tgt := 11) (pf := 5) (st' := []) (fun _ _ a b => e_icmp_lt dX11_feed_2 rfl a b) (fun c16 => ?_) (fun c16 => ?_)
  · rw [if_pos c16] at hf
    refine es_sub [] rfl ?_
    exact t_X11_feed_11 N S r hf
  · rw [if_neg c16] at hf
    refine es_l (pc' := 8) (ls' := [(0, .ref (w.2.1 + 0)), (1, .long y1), (3, .int x3)]) (st' := [.int 8, .int x3]) (fun _ _ k => e_iload_n dX11_feed_5 2 rfl (e_bipush (v := 8) dX11_feed_6 (by decide) k)) ?_
    refine es_br (c := x3 ≤ 8) (tgt := 19) (pf := 11) (st' := []) (fun _ _ a b => e_icmp_le dX11_feed_8 rfl a b) (fun c17 => ?_) (fun c17 => ?_)
    · rw [if_pos c17] at hf
      refine es_l (pc' := 20) (ls' := [(0, .ref (w.2.1 + 0)), (1, .long y1), (3, .int x3)]) (st' := [.ref (w.2.1 + 0)]) (fun _ _ k => e_aload_n dX11_feed_19 0 rfl k) ?_
      refine es_get (v := .ref (w.2.1 + 1)) xc_11 dX11_feed_20 fl_X11_10 (by decide) (by decide) (cel_0 _ _ _) rfl ?_
      refine es_get (v := .int (S.1 1 5)) xc_9 dX11_feed_23 fl_X11_62 (by decide) (by decide) (cel_1 _ _ _) rfl ?_
      refine es_l (pc' := 31) (ls' := [(0, .ref (w.2.1 + 0)), (1, .long y1), (3, .int x3)]) (st' := [.int 500, .int ((S.1 1 5) + x3)]) (fun _ _ k => e_iload_n dX11_feed_26 2 rfl (e_iadd dX11_feed_27 (e_sipush (v := 500) dX11_feed_28 (by decide) k))) ?_
      refine es_br (c := ((S.1 1 5) + x3) ≤ 500) (tgt := 42) (pf := 34) (st' := []) (fun _ _ a b => e_icmp_le dX11_feed_31 rfl a b) (fun c18 => ?_) (fun c18 => ?_)
      · rw [if_pos c18] at hf
        refine es_l (pc' := 47) (ls' := [(4, .int (x3 - 1)), (0, .ref (w.2.1 + 0)), (1, .long y1), (3, .int x3)]) (st' := []) (fun _ _ k => e_iload_n dX11_feed_42 2 rfl (e_iconst (v := 1) dX11_feed_43 (by decide) (e_isub dX11_feed_44 (e_istore (ls' := [(4, .int (x3 - 1)), (0, .ref (w.2.1 + 0)), (1, .long y1), (3, .int x3)]) dX11_feed_45 (by decide) rfl k)))) ?_
        refine es_sub [1, 2, 0] rfl ?_
        exact t_X11_feed_47 N N y1 (x3 - 1) S r hf
      · rw [if_neg c18] at hf
        exact es_throw (names := ["java/lang/RuntimeException", "java/lang/Exception"]) (by decide +kernel) (by decide +kernel) th_k_X11_65 th_i_IllegalStateException th_a_X11_65 th_g_X11_65 dX11_feed_34 dX11_feed_37 dX11_feed_38 dX11_feed_41 (by decide) (by decide) (by decide) hf
    · rw [if_neg c17] at hf
      refine es_sub [] rfl ?_
      exact t_X11_feed_11 N S r hf
def f_X11_load_44 (N : Nat)  (s0 : Int32) (S : xS) : Option xr :=
  if (S.1 0 6) = 0 then
    xcV (f_X3_takeBack N (sI (sI S 0 7 s0) 1 5 0)) (fun S28 =>
    some (.inr "java/lang/IllegalArgumentException", sE S28)
    )
  else
    some (.inl (some (.inl (S.1 1 6))), sI (sI S 0 7 s0) 1 5 0)
def f_X11_load (N : Nat)  (S : xS) : Option xr :=
  xcV (f_X3_keep N S) (fun S30 =>
  xcV (f_X9_scan N S30) (fun S32 =>
  xcI (f_X6_reads N S32) (fun v35 S34 =>
  if xbo v35 then
  if v35 = 0 then
    xcI (f_X9_wrongPlace N (sI S34 0 6 v35)) (fun v39 S38 =>
    f_X11_load_44 N v39 S38
    )
  else
    f_X11_load_44 N ((-1)) (sI S34 0 6 v35)
  else none
  )
  )
  )
def f_X11_place (N : Nat)  (S : xS) : Option xr :=
  some (.inl (some (.inl (S.1 0 7))), S)
set_option maxRecDepth 100000 in
set_option maxHeartbeats 4000000 in
theorem t_X11_place {l : Launch} {w : xW} {g : Nat → xE} (N : Nat)  (S : xS) (r : xr) (hf : f_X11_place N  S = some r) : ES l w g M_X11_place 0 (lv_args 0 [.ref (w.2.1 + 0)]) [] S r := by
  show ES l w g M_X11_place 0 [(0, .ref (w.2.1 + 0))] [] S r
  unfold f_X11_place at hf
  refine es_l (pc' := 1) (ls' := [(0, .ref (w.2.1 + 0))]) (st' := [.ref (w.2.1 + 0)]) (fun _ _ k => e_aload_n dX11_place_0 0 rfl k) ?_
  refine es_get (v := .int (S.1 0 7)) xc_11 dX11_place_1 fl_X11_55 (by decide) (by decide) (cel_0 _ _ _) rfl ?_
  exact es_ireturn (ty := .int) dX11_place_4 rfl rfl hf
