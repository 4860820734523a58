def f_J0_coder_7d493_14 (N : Nat) (i : Nat)  (s0 : Int32) (S : xS) : Option xr :=
  if narrow .byte (.int s0) = .int s0 then
  some (.inl (some (.inl s0)), S)
  else none
set_option maxRecDepth 100000 in
set_option maxHeartbeats 4000000 in
theorem t_J0_coder_7d493_14 {l : Launch} {w : xW} {g : Nat → xE} (N : Nat) (i : Nat)   (s0 : Int32) (S : xS) (r : xr) (hf : f_J0_coder_7d493_14 N i  s0 S = some r) : ES l w g M_J0_coder_7d493 14 [] [.int s0] S r := by
  unfold f_J0_coder_7d493_14 at hf
  obtain ⟨g7, hf⟩ := xg hf
  exact es_ireturn (ty := .byte) dJ0_coder_7d493_14 rfl g7 hf
def f_J0_coder_7d493 (N : Nat) (i : Nat)  (S : xS) : Option xr :=
  if (1 : Int32) = 0 then
    f_J0_coder_7d493_14 N i 1 S
  else
    if i < 3 then
    f_J0_coder_7d493_14 N i 0 S
    else none
set_option maxRecDepth 100000 in
set_option maxHeartbeats 4000000 in
theorem t_J0_coder_7d493 {l : Launch} {w : xW} {g : Nat → xE} (N : Nat) (i : Nat)  (S : xS) (r : xr) (hf : f_J0_coder_7d493 N i S = some r) : ES l w g M_J0_coder_7d493 0 (lv_args 0 [.ref (w.2.2 i)]) [] S r := by
  show ES l w g M_J0_coder_7d493 0 [(0, .ref (w.2.2 i))] [] S r
  unfold f_J0_coder_7d493 at hf
  refine es_l (pc' := 3) (ls' := [(0, .ref (w.2.2 i))]) (st' := [.int 1]) (fun _ _ k => e_getsC dJ0_coder_7d493_0 fs_J0_38 k) ?_
  refine es_br (c := (1 : Int32) = 0) (tgt := 13) (pf := 6) (st' := []) (fun _ _ a b => e_if_eq dJ0_coder_7d493_3 rfl a b) (fun c8 => ?_) (fun c8 => ?_)
  · rw [if_pos c8] at hf
    refine es_l (pc' := 14) (ls' := [(0, .ref (w.2.2 i))]) (st' := [.int 1]) (fun _ _ k => e_iconst (v := 1) dJ0_coder_7d493_13 (by decide) k) ?_
    refine es_sub [] rfl ?_
    exact t_J0_coder_7d493_14 N i 1 S r hf
  · rw [if_neg c8] at hf
    refine es_l (pc' := 7) (ls' := [(0, .ref (w.2.2 i))]) (st' := [.ref (w.2.2 i)]) (fun _ _ k => e_aload_n dJ0_coder_7d493_6 0 rfl k) ?_
    obtain ⟨g9, hf⟩ := xg hf
    refine es_getK g9 dJ0_coder_7d493_7 fs_J0_15 ?_
    refine es_l (pc' := 14) (ls' := [(0, .ref (w.2.2 i))]) (st' := [.int 0]) (fun _ _ k => e_goto (tgt := 14) dJ0_coder_7d493_10 rfl k) ?_
    refine es_sub [] rfl ?_
    exact t_J0_coder_7d493_14 N i 0 S r hf
def f_J0_isLatin1_aae02_18 (N : Nat) (i : Nat)  (s0 : Int32) (S : xS) : Option xr :=
  if xbo s0 then
  some (.inl (some (.inl s0)), S)
  else none
set_option maxRecDepth 100000 in
set_option maxHeartbeats 4000000 in
theorem t_J0_isLatin1_aae02_18 {l : Launch} {w : xW} {g : Nat → xE} (N : Nat) (i : Nat)   (s0 : Int32) (S : xS) (r : xr) (hf : f_J0_isLatin1_aae02_18 N i  s0 S = some r) : ES l w g M_J0_isLatin1_aae02 18 [] [.int s0] S r := by
  unfold f_J0_isLatin1_aae02_18 at hf
  obtain ⟨g9, hf⟩ := xg hf
  exact es_ireturn (ty := .boolean) dJ0_isLatin1_aae02_18 rfl (xbo_n g9) hf
def f_J0_isLatin1_aae02_17 (N : Nat) (i : Nat)   (S : xS) : Option xr :=
  f_J0_isLatin1_aae02_18 N i 0 S
set_option maxRecDepth 100000 in
set_option maxHeartbeats 4000000 in
theorem t_J0_isLatin1_aae02_17 {l : Launch} {w : xW} {g : Nat → xE} (N : Nat) (i : Nat)    (S : xS) (r : xr) (hf : f_J0_isLatin1_aae02_17 N i   S = some r) : ES l w g M_J0_isLatin1_aae02 17 [] [] S r := by
  unfold f_J0_isLatin1_aae02_17 at hf
  refine es_l (pc' := 18) (ls' := []) (st' := [.int 0]) (fun _ _ k => e_iconst (v := 0) dJ0_isLatin1_aae02_17 (by decide) k) ?_
  exact t_J0_isLatin1_aae02_18 N i 0 S r hf
def f_J0_isLatin1_aae02 (N : Nat) (i : Nat)  (S : xS) : Option xr :=
  if (1 : Int32) = 0 then
    f_J0_isLatin1_aae02_17 N i S
  else
    if i < 3 then
    if (0 : Int32) = 0 then
      f_J0_isLatin1_aae02_18 N i 1 S
    else
      f_J0_isLatin1_aae02_17 N i S
    else none
set_option maxRecDepth 100000 in
set_option maxHeartbeats 4000000 in
theorem t_J0_isLatin1_aae02 {l : Launch} {w : xW} {g : Nat → xE} (N : Nat) (i : Nat)  (S : xS) (r : xr) (hf : f_J0_isLatin1_aae02 N i S = some r) : ES l w g M_J0_isLatin1_aae02 0 (lv_args 0 [.ref (w.2.2 i)]) [] S r := by
  show ES l w g M_J0_isLatin1_aae02 0 [(0, .ref (w.2.2 i))] [] S r
  unfold f_J0_isLatin1_aae02 at hf
  refine es_l (pc' := 3) (ls' := [(0, .ref (w.2.2 i))]) (st' := [.int 1]) (fun _ _ k => e_getsC dJ0_isLatin1_aae02_0 fs_J0_38 k) ?_
  refine es_br (c := (1 : Int32) = 0) (tgt := 17) (pf := 6) (st' := []) (fun _ _ a b => e_if_eq dJ0_isLatin1_aae02_3 rfl a b) (fun c10 => ?_) (fun c10 => ?_)
  · rw [if_pos c10] at hf
    refine es_sub [] rfl ?_
    exact t_J0_isLatin1_aae02_17 N i S r hf
  · rw [if_neg c10] at hf
    refine es_l (pc' := 7) (ls' := [(0, .ref (w.2.2 i))]) (st' := [.ref (w.2.2 i)]) (fun _ _ k => e_aload_n dJ0_isLatin1_aae02_6 0 rfl k) ?_
    obtain ⟨g11, hf⟩ := xg hf
    refine es_getK g11 dJ0_isLatin1_aae02_7 fs_J0_15 ?_
    refine es_br (c := (0 : Int32) = 0) (tgt := 13) (pf := 17) (st' := []) (fun _ _ a b => e_if_ne dJ0_isLatin1_aae02_10 rfl b a) (fun c12 => ?_) (fun c12 => ?_)
    · rw [if_pos c12] at hf
      refine es_l (pc' := 18) (ls' := [(0, .ref (w.2.2 i))]) (st' := [.int 1]) (fun _ _ k => e_iconst (v := 1) dJ0_isLatin1_aae02_13 (by decide) (e_goto (tgt := 18) dJ0_isLatin1_aae02_14 rfl k)) ?_
      refine es_sub [] rfl ?_
      exact t_J0_isLatin1_aae02_18 N i 1 S r hf
    · rw [if_neg c12] at hf
      refine es_sub [] rfl ?_
      exact t_J0_isLatin1_aae02_17 N i S r hf
def f_J0_length_8abf5 (N : Nat) (i : Nat)  (S : xS) : Option xr :=
  if i < 3 then
  xcI (f_J0_coder_7d493 N i S) (fun v6 S5 =>
  some (.inl (some (.inl ((Int32.ofNat (x_by i).length) >>> (v6 &&& 31)))), S5)
  )
  else none
set_option maxRecDepth 100000 in
set_option maxHeartbeats 4000000 in
theorem t_J0_length_8abf5 {l : Launch} {w : xW} {g : Nat → xE} (N : Nat) (i : Nat)  (S : xS) (r : xr) (hf : f_J0_length_8abf5 N i S = some r) : ES l w g M_J0_length_8abf5 0 (lv_args 0 [.ref (w.2.2 i)]) [] S r := by
  show ES l w g M_J0_length_8abf5 0 [(0, .ref (w.2.2 i))] [] S r
  unfold f_J0_length_8abf5 at hf
  refine es_l (pc' := 1) (ls' := [(0, .ref (w.2.2 i))]) (st' := [.ref (w.2.2 i)]) (fun _ _ k => e_aload_n dJ0_length_8abf5_0 0 rfl k) ?_
  obtain ⟨g4, hf⟩ := xg hf
  refine es_getV g4 dJ0_length_8abf5_1 fs_J0_9 ?_
  refine es_alenV g4 dJ0_length_8abf5_4 ?_
  refine es_l (pc' := 6) (ls' := [(0, .ref (w.2.2 i))]) (st' := [.ref (w.2.2 i), .int (Int32.ofNat (x_by i).length)]) (fun _ _ k => e_aload_n dJ0_length_8abf5_5 0 rfl k) ?_
  refine es_callTI (i := i) (as := []) (rest := [.int (Int32.ofNat (x_by i).length)]) hf g4 dJ0_length_8abf5_6 cs_J0_length_8abf5_J0_coder_7d493 ml_J0_335 im_J0_coder_7d493 se_J0_coder_7d493 rfl rfl (Nat.le_of_ble_eq_true rfl) (Nat.le_of_ble_eq_true rfl) rfl (fun _ e => t_J0_coder_7d493 N i S _ e) (by decide) (fun v6 S5 hf => ?_)
  refine es_l (pc' := 10) (ls' := [(0, .ref (w.2.2 i))]) (st' := [.int ((Int32.ofNat (x_by i).length) >>> (v6 &&& 31))]) (fun _ _ k => e_ishr dJ0_length_8abf5_9 k) ?_
  exact es_ireturn (ty := .int) dJ0_length_8abf5_10 rfl rfl hf
def f_J1_canEncode_9a6ad_16 (N : Nat)  (s0 : Int32) (S : xS) : Option xr :=
  if xbo s0 then
  some (.inl (some (.inl s0)), S)
  else none
set_option maxRecDepth 100000 in
set_option maxHeartbeats 4000000 in
theorem t_J1_canEncode_9a6ad_16 {l : Launch} {w : xW} {g : Nat → xE} (N : Nat)   (s0 : Int32) (S : xS) (r : xr) (hf : f_J1_canEncode_9a6ad_16 N  s0 S = some r) : ES l w g M_J1_canEncode_9a6ad 16 [] [.int s0] S r := by
  unfold f_J1_canEncode_9a6ad_16 at hf
  obtain ⟨g7, hf⟩ := xg hf
  exact es_ireturn (ty := .boolean) dJ1_canEncode_9a6ad_16 rfl (xbo_n g7) hf
def f_J1_canEncode_9a6ad_15 (N : Nat)   (S : xS) : Option xr :=
  f_J1_canEncode_9a6ad_16 N 0 S
set_option maxRecDepth 100000 in
set_option maxHeartbeats 4000000 in
theorem t_J1_canEncode_9a6ad_15 {l : Launch} {w : xW} {g : Nat → xE} (N : Nat)    (S : xS) (r : xr) (hf : f_J1_canEncode_9a6ad_15 N   S = some r) : ES l w g M_J1_canEncode_9a6ad 15 [] [] S r := by
  unfold f_J1_canEncode_9a6ad_15 at hf
  refine es_l (pc' := 16) (ls' := []) (st' := [.int 0]) (fun _ _ k => e_iconst (v := 0) dJ1_canEncode_9a6ad_15 (by decide) k) ?_
  exact t_J1_canEncode_9a6ad_16 N 0 S r hf
def f_J1_canEncode_9a6ad (N : Nat) (x0 : Int32) (S : xS) : Option xr :=
  if x0 < 0 then
    f_J1_canEncode_9a6ad_15 N S
  else
    if 255 < x0 then
      f_J1_canEncode_9a6ad_15 N S
    else
      f_J1_canEncode_9a6ad_16 N 1 S
set_option maxRecDepth 100000 in
set_option maxHeartbeats 4000000 in
theorem t_J1_canEncode_9a6ad {l : Launch} {w : xW} {g : Nat → xE} (N : Nat) (x0 : Int32) (S : xS) (r : xr) (hf : f_J1_canEncode_9a6ad N x0 S = some r) : ES l w g M_J1_canEncode_9a6ad 0 (lv_args 0 [.int x0]) [] S r := by
  show ES l w g M_J1_canEncode_9a6ad 0 [(0, .int x0)] [] S r
  unfold f_J1_canEncode_9a6ad at hf
  refine es_l (pc' := 1) (ls' := [(0, .int x0)]) (st' := [.int x0]) (fun _ _ k => e_iload_n dJ1_canEncode_9a6ad_0 0 rfl k) ?_
  refine es_br (c := x0 < 0) (tgt := 15) (pf := 4) (st' := []) (fun _ _ a b => e_if_lt dJ1_canEncode_9a6ad_1 rfl a b) (fun c8 => ?_) (fun c8 => ?_)
  · rw [if_pos c8] at hf
    refine es_sub [] rfl ?_
    exact t_J1_canEncode_9a6ad_15 N S r hf
  · rw [if_neg c8] at hf
    refine es_l (pc' := 8) (ls' := [(0, .int x0)]) (st' := [.int 255, .int x0]) (fun _ _ k => e_iload_n dJ1_canEncode_9a6ad_4 0 rfl (e_sipush (v := 255) dJ1_canEncode_9a6ad_5 (by decide) k)) ?_
    refine es_br (c := 255 < x0) (tgt := 15) (pf := 11) (st' := []) (fun _ _ a b => e_icmp_gt dJ1_canEncode_9a6ad_8 rfl a b) (fun c9 => ?_) (fun c9 => ?_)
    · rw [if_pos c9] at hf
      refine es_sub [] rfl ?_
      exact t_J1_canEncode_9a6ad_15 N S r hf
    · rw [if_neg c9] at hf
      refine es_l (pc' := 16) (ls' := [(0, .int x0)]) (st' := [.int 1]) (fun _ _ k => e_iconst (v := 1) dJ1_canEncode_9a6ad_11 (by decide) (e_goto (tgt := 16) dJ1_canEncode_9a6ad_12 rfl k)) ?_
      refine es_sub [] rfl ?_
      exact t_J1_canEncode_9a6ad_16 N 1 S r hf
def f_J9_max_7cf53_10 (N : Nat)  (s0 : Int32) (S : xS) : Option xr :=
  some (.inl (some (.inl s0)), S)
set_option maxRecDepth 100000 in
set_option maxHeartbeats 4000000 in
theorem t_J9_max_7cf53_10 {l : Launch} {w : xW} {g : Nat → xE} (N : Nat)   (s0 : Int32) (S : xS) (r : xr) (hf : f_J9_max_7cf53_10 N  s0 S = some r) : ES l w g M_J9_max_7cf53 10 [] [.int s0] S r := by
  unfold f_J9_max_7cf53_10 at hf
  exact es_ireturn (ty := .int) dJ9_max_7cf53_10 rfl rfl hf
def f_J9_max_7cf53 (N : Nat) (x0 : Int32) (x1 : Int32) (S : xS) : Option xr :=
  if x0 < x1 then
    f_J9_max_7cf53_10 N x1 S
  else
    f_J9_max_7cf53_10 N x0 S
set_option maxRecDepth 100000 in
set_option maxHeartbeats 4000000 in
theorem t_J9_max_7cf53 {l : Launch} {w : xW} {g : Nat → xE} (N : Nat) (x0 : Int32) (x1 : Int32) (S : xS) (r : xr) (hf : f_J9_max_7cf53 N x0 x1 S = some r) : ES l w g M_J9_max_7cf53 0 (lv_args 0 [.int x0, .int x1]) [] S r := by
  show ES l w g M_J9_max_7cf53 0 [(0, .int x0), (1, .int x1)] [] S r
  unfold f_J9_max_7cf53 at hf
  refine es_l (pc' := 2) (ls' := [(0, .int x0), (1, .int x1)]) (st' := [.int x1, .int x0]) (fun _ _ k => e_iload_n dJ9_max_7cf53_0 0 rfl (e_iload_n dJ9_max_7cf53_1 1 rfl k)) ?_
  refine es_br (c := x0 < x1) (tgt := 9) (pf := 5) (st' := []) (fun _ _ a b => e_icmp_lt dJ9_max_7cf53_2 rfl a b) (fun c3 => ?_) (fun c3 => ?_)
  · rw [if_pos c3] at hf
    refine es_l (pc' := 10) (ls' := [(0, .int x0), (1, .int x1)]) (st' := [.int x1]) (fun _ _ k => e_iload_n dJ9_max_7cf53_9 1 rfl k) ?_
    refine es_sub [] rfl ?_
    exact t_J9_max_7cf53_10 N x1 S r hf
  · rw [if_neg c3] at hf
    refine es_l (pc' := 10) (ls' := [(0, .int x0), (1, .int x1)]) (st' := [.int x0]) (fun _ _ k => e_iload_n dJ9_max_7cf53_5 0 rfl (e_goto (tgt := 10) dJ9_max_7cf53_6 rfl k)) ?_
    refine es_sub [] rfl ?_
    exact t_J9_max_7cf53_10 N x0 S r hf
def f_J9_min_7cf53_10 (N : Nat)  (s0 : Int32) (S : xS) : Option xr :=
  some (.inl (some (.inl s0)), S)
set_option maxRecDepth 100000 in
set_option maxHeartbeats 4000000 in
theorem t_J9_min_7cf53_10 {l : Launch} {w : xW} {g : Nat → xE} (N : Nat)   (s0 : Int32) (S : xS) (r : xr) (hf : f_J9_min_7cf53_10 N  s0 S = some r) : ES l w g M_J9_min_7cf53 10 [] [.int s0] S r := by
  unfold f_J9_min_7cf53_10 at hf
  exact es_ireturn (ty := .int) dJ9_min_7cf53_10 rfl rfl hf
def f_J9_min_7cf53 (N : Nat) (x0 : Int32) (x1 : Int32) (S : xS) : Option xr :=
  if x1 < x0 then
    f_J9_min_7cf53_10 N x1 S
  else
    f_J9_min_7cf53_10 N x0 S
set_option maxRecDepth 100000 in
set_option maxHeartbeats 4000000 in
theorem t_J9_min_7cf53 {l : Launch} {w : xW} {g : Nat → xE} (N : Nat) (x0 : Int32) (x1 : Int32) (S : xS) (r : xr) (hf : f_J9_min_7cf53 N x0 x1 S = some r) : ES l w g M_J9_min_7cf53 0 (lv_args 0 [.int x0, .int x1]) [] S r := by
  show ES l w g M_J9_min_7cf53 0 [(0, .int x0), (1, .int x1)] [] S r
  unfold f_J9_min_7cf53 at hf
  refine es_l (pc' := 2) (ls' := [(0, .int x0), (1, .int x1)]) (st' := [.int x1, .int x0]) (fun _ _ k => e_iload_n dJ9_min_7cf53_0 0 rfl (e_iload_n dJ9_min_7cf53_1 1 rfl k)) ?_
  refine es_br (c := x1 < x0) (tgt := 9) (pf := 5) (st' := []) (fun _ _ a b => e_icmp_gt dJ9_min_7cf53_2 rfl a b) (fun c3 => ?_) (fun c3 => ?_)
  · rw [if_pos c3] at hf
    refine es_l (pc' := 10) (ls' := [(0, .int x0), (1, .int x1)]) (st' := [.int x1]) (fun _ _ k => e_iload_n dJ9_min_7cf53_9 1 rfl k) ?_
    refine es_sub [] rfl ?_
    exact t_J9_min_7cf53_10 N x1 S r hf
  · rw [if_neg c3] at hf
    refine es_l (pc' := 10) (ls' := [(0, .int x0), (1, .int x1)]) (st' := [.int x0]) (fun _ _ k => e_iload_n dJ9_min_7cf53_5 0 rfl (e_goto (tgt := 10) dJ9_min_7cf53_6 rfl k)) ?_
    refine es_sub [] rfl ?_
    exact t_J9_min_7cf53_10 N x0 S r hf
def f_J1_indexOfChar_4cfef_7 (N : Nat) (i : Nat)  : Nat → Int32 → Int32 → Int32 → xS → Option xr
  | 0, _, _, _, _ => none
  | n + 1, x3, x4, x5, S =>
  if x3 ≤ x5 then
    some (.inl (some (.inl ((-1)))), S)
  else
    if i < 3 then
    if xin x5 (x_by i).length then
    if ((x_by i).getD x5.toNatClampNeg 0) = x4 then
      some (.inl (some (.inl x5)), S)
    else
      f_J1_indexOfChar_4cfef_7 N i n x3 x4 (x5 + 1) S
    else none
    else none
set_option maxRecDepth 100000 in
set_option maxHeartbeats 4000000 in
theorem t_J1_indexOfChar_4cfef_7 {l : Launch} {w : xW} {g : Nat → xE} (N : Nat) (i : Nat)   : ∀ (n : Nat) (x3 : Int32) (x4 : Int32) (x5 : Int32) (S : xS) (r : xr), f_J1_indexOfChar_4cfef_7 N i  n x3 x4 x5 S = some r → ES l w g M_J1_indexOfChar_4cfef 7 [(0, .ref (w.2.2 (3 + i))), (3, .int x3), (4, .int x4), (5, .int x5)] [] S r := by
  intro n
  induction n with
  | zero => intro x3 x4 x5 S r hf; cases hf
  | succ n ih =>
    intro x3 x4 x5 S r hf
    rw [f_J1_indexOfChar_4cfef_7.eq_2] at hf
    refine es_l (pc' := 10) (ls' := [(0, .ref (w.2.2 (3 + i))), (3, .int x3), (4, .int x4), (5, .int x5)]) (st' := [.int x3, .int x5]) (fun _ _ k => e_iload dJ1_indexOfChar_4cfef_7 3 rfl (e_iload_n dJ1_indexOfChar_4cfef_9 1 rfl k)) ?_
    refine es_br (c := x3 ≤ x5) (tgt := 31) (pf := 13) (st' := []) (fun _ _ a b => e_icmp_ge dJ1_indexOfChar_4cfef_10 rfl a b) (fun c9 => ?_) (fun c9 => ?_)
    · rw [if_pos c9] at hf
      refine es_l (pc' := 32) (ls' := [(0, .ref (w.2.2 (3 + i))), (3, .int x3), (4, .int x4), (5, .int x5)]) (st' := [.int ((-1))]) (fun _ _ k => e_iconst (v := (-1)) dJ1_indexOfChar_4cfef_31 (by decide) k) ?_
      exact es_ireturn (ty := .int) dJ1_indexOfChar_4cfef_32 rfl rfl hf
    · rw [if_neg c9] at hf
      refine es_l (pc' := 16) (ls' := [(0, .ref (w.2.2 (3 + i))), (3, .int x3), (4, .int x4), (5, .int x5)]) (st' := [.int x5, .ref (w.2.2 (3 + i))]) (fun _ _ k => e_aload_n dJ1_indexOfChar_4cfef_13 0 rfl (e_iload dJ1_indexOfChar_4cfef_14 3 rfl k)) ?_
      obtain ⟨g10, hf⟩ := xg hf
      obtain ⟨g11, hf⟩ := xg hf
      refine es_baldV g10 dJ1_indexOfChar_4cfef_16 g11 ?_
      refine es_l (pc' := 19) (ls' := [(0, .ref (w.2.2 (3 + i))), (3, .int x3), (4, .int x4), (5, .int x5)]) (st' := [.int x4, .int ((x_by i).getD x5.toNatClampNeg 0)]) (fun _ _ k => e_iload dJ1_indexOfChar_4cfef_17 2 rfl k) ?_
      refine es_br (c := ((x_by i).getD x5.toNatClampNeg 0) = x4) (tgt := 22) (pf := 25) (st' := []) (fun _ _ a b => e_icmp_ne dJ1_indexOfChar_4cfef_19 rfl b a) (fun c12 => ?_) (fun c12 => ?_)
      · rw [if_pos c12] at hf
        refine es_l (pc' := 24) (ls' := [(0, .ref (w.2.2 (3 + i))), (3, .int x3), (4, .int x4), (5, .int x5)]) (st' := [.int x5]) (fun _ _ k => e_iload dJ1_indexOfChar_4cfef_22 3 rfl k) ?_
        exact es_ireturn (ty := .int) dJ1_indexOfChar_4cfef_24 rfl rfl hf
      · rw [if_neg c12] at hf
        refine es_l (pc' := 7) (ls' := [(5, .int (x5 + 1)), (0, .ref (w.2.2 (3 + i))), (3, .int x3), (4, .int x4)]) (st' := []) (fun _ _ k => e_iinc (v := x5 + 1) (ls' := [(5, .int (x5 + 1)), (0, .ref (w.2.2 (3 + i))), (3, .int x3), (4, .int x4)]) dJ1_indexOfChar_4cfef_25 3 rfl rfl (by decide) rfl (e_goto (tgt := 7) dJ1_indexOfChar_4cfef_28 rfl k)) ?_
        refine es_sub [1, 2, 3, 0] rfl ?_
        exact ih x3 x4 (x5 + 1) S r hf
def f_J1_indexOfChar_4cfef (N : Nat) (i : Nat) (x1 : Int32) (x2 : Int32) (x3 : Int32) (S : xS) : Option xr :=
  f_J1_indexOfChar_4cfef_7 N i N x3 ((x1 : Int32).toInt8.toInt32) x2 S
set_option maxRecDepth 100000 in
set_option maxHeartbeats 4000000 in
theorem t_J1_indexOfChar_4cfef {l : Launch} {w : xW} {g : Nat → xE} (N : Nat) (i : Nat) (x1 : Int32) (x2 : Int32) (x3 : Int32) (S : xS) (r : xr) (hf : f_J1_indexOfChar_4cfef N i x1 x2 x3 S = some r) : ES l w g M_J1_indexOfChar_4cfef 0 (lv_args 0 [.ref (w.2.2 (3 + i)), .int x1, .int x2, .int x3]) [] S r := by
  show ES l w g M_J1_indexOfChar_4cfef 0 [(0, .ref (w.2.2 (3 + i))), (1, .int x1), (2, .int x2), (3, .int x3)] [] S r
  unfold f_J1_indexOfChar_4cfef at hf
  refine es_l (pc' := 7) (ls' := [(5, .int x2), (4, .int ((x1 : Int32).toInt8.toInt32)), (0, .ref (w.2.2 (3 + i))), (1, .int x1), (2, .int x2), (3, .int x3)]) (st' := []) (fun _ _ k => e_iload_n dJ1_indexOfChar_4cfef_0 1 rfl (e_i2b (v := (x1 : Int32).toInt8.toInt32) dJ1_indexOfChar_4cfef_1 rfl (e_istore (ls' := [(4, .int ((x1 : Int32).toInt8.toInt32)), (0, .ref (w.2.2 (3 + i))), (1, .int x1), (2, .int x2), (3, .int x3)]) dJ1_indexOfChar_4cfef_2 (by decide) rfl (e_iload_n dJ1_indexOfChar_4cfef_4 3 rfl (e_istore (ls' := [(5, .int x2), (4, .int ((x1 : Int32).toInt8.toInt32)), (0, .ref (w.2.2 (3 + i))), (1, .int x1), (2, .int x2), (3, .int x3)]) dJ1_indexOfChar_4cfef_5 (by decide) rfl k))))) ?_
  refine es_sub [2, 5, 1, 0] rfl ?_
  exact t_J1_indexOfChar_4cfef_7 N i N x3 ((x1 : Int32).toInt8.toInt32) x2 S r hf
def f_J1_indexOf_4cfef (N : Nat) (i : Nat) (x1 : Int32) (x2 : Int32) (x3 : Int32) (S : xS) : Option xr :=
  xcI (f_J1_canEncode_9a6ad N x1 S) (fun v13 S12 =>
  if v13 = 0 then
    some (.inl (some (.inl ((-1)))), S12)
  else
    xcI (f_J9_max_7cf53 N x2 0 S12) (fun v16 S15 =>
    if i < 3 then
    xcI (f_J9_min_7cf53 N x3 (Int32.ofNat (x_by i).length) S15) (fun v19 S18 =>
    if v16 < v19 then
      xcI (f_J1_indexOfChar_4cfef N i x1 v16 v19 S18) (fun v22 S21 =>
      some (.inl (some (.inl v22)), S21)
      )
    else
      some (.inl (some (.inl ((-1)))), S18)
    )
    else none
    )
  )
set_option maxRecDepth 100000 in
set_option maxHeartbeats 4000000 in
theorem t_J1_indexOf_4cfef {l : Launch} {w : xW} {g : Nat → xE} (N : Nat) (i : Nat) (x1 : Int32) (x2 : Int32) (x3 : Int32) (S : xS) (r : xr) (hf : f_J1_indexOf_4cfef N i x1 x2 x3 S = some r) : ES l w g M_J1_indexOf_4cfef 0 (lv_args 0 [.ref (w.2.2 (3 + i)), .int x1, .int x2, .int x3]) [] S r := by
  show ES l w g M_J1_indexOf_4cfef 0 [(0, .ref (w.2.2 (3 + i))), (1, .int x1), (2, .int x2), (3, .int x3)] [] S r
  unfold f_J1_indexOf_4cfef at hf
  refine es_l (pc' := 1) (ls' := [(0, .ref (w.2.2 (3 + i))), (1, .int x1), (2, .int x2), (3, .int x3)]) (st' := [.int x1]) (fun _ _ k => e_iload_n dJ1_indexOf_4cfef_0 1 rfl k) ?_
  refine es_callSI (as := [.int x1]) (rest := []) hf dJ1_indexOf_4cfef_1 cs_J1_indexOf_4cfef_J1_canEncode_9a6ad ml_J1_88 st_J1_canEncode_9a6ad rfl rfl (Nat.le_of_ble_eq_true rfl) (Nat.le_of_ble_eq_true rfl) (fun _ e => t_J1_canEncode_9a6ad N x1 S _ e) (by decide) (fun v13 S12 hf => ?_)
  refine es_br (c := v13 = 0) (tgt := 7) (pf := 9) (st' := []) (fun _ _ a b => e_if_ne dJ1_indexOf_4cfef_4 rfl b a) (fun c14 => ?_) (fun c14 => ?_)
  · rw [if_pos c14] at hf
    refine es_l (pc' := 8) (ls' := [(0, .ref (w.2.2 (3 + i))), (1, .int x1), (2, .int x2), (3, .int x3)]) (st' := [.int ((-1))]) (fun _ _ k => e_iconst (v := (-1)) dJ1_indexOf_4cfef_7 (by decide) k) ?_
    exact es_ireturn (ty := .int) dJ1_indexOf_4cfef_8 rfl rfl hf
  · rw [if_neg c14] at hf
    refine es_l (pc' := 11) (ls' := [(0, .ref (w.2.2 (3 + i))), (1, .int x1), (2, .int x2), (3, .int x3)]) (st' := [.int 0, .int x2]) (fun _ _ k => e_iload_n dJ1_indexOf_4cfef_9 2 rfl (e_iconst (v := 0) dJ1_indexOf_4cfef_10 (by decide) k)) ?_
    refine es_callSI (as := [.int x2, .int 0]) (rest := []) hf dJ1_indexOf_4cfef_11 cs_J1_indexOf_4cfef_J9_max_7cf53 ml_J1_92 st_J9_max_7cf53 rfl rfl (Nat.le_of_ble_eq_true rfl) (Nat.le_of_ble_eq_true rfl) (fun _ e => t_J9_max_7cf53 N x2 0 S12 _ e) (by decide) (fun v16 S15 hf => ?_)
    refine es_l (pc' := 17) (ls' := [(2, .int v16), (0, .ref (w.2.2 (3 + i))), (1, .int x1), (3, .int x3)]) (st' := [.ref (w.2.2 (3 + i)), .int x3]) (fun _ _ k => e_istore_n (ls' := [(2, .int v16), (0, .ref (w.2.2 (3 + i))), (1, .int x1), (3, .int x3)]) dJ1_indexOf_4cfef_14 (by decide) rfl (e_iload_n dJ1_indexOf_4cfef_15 3 rfl (e_aload_n dJ1_indexOf_4cfef_16 1 rfl k))) ?_
    obtain ⟨g17, hf⟩ := xg hf
    refine es_alenV g17 dJ1_indexOf_4cfef_17 ?_
    refine es_callSI (as := [.int x3, .int (Int32.ofNat (x_by i).length)]) (rest := []) hf dJ1_indexOf_4cfef_18 cs_J1_indexOf_4cfef_J9_min_7cf53 ml_J1_38 st_J9_min_7cf53 rfl rfl (Nat.le_of_ble_eq_true rfl) (Nat.le_of_ble_eq_true rfl) (fun _ e => t_J9_min_7cf53 N x3 (Int32.ofNat (x_by i).length) S15 _ e) (by decide) (fun v19 S18 hf => ?_)
    refine es_l (pc' := 24) (ls' := [(3, .int v19), (2, .int v16), (0, .ref (w.2.2 (3 + i))), (1, .int x1)]) (st' := [.int v19, .int v16]) (fun _ _ k => e_istore_n (ls' := [(3, .int v19), (2, .int v16), (0, .ref (w.2.2 (3 + i))), (1, .int x1)]) dJ1_indexOf_4cfef_21 (by decide) rfl (e_iload_n dJ1_indexOf_4cfef_22 1 rfl (e_iload_n dJ1_indexOf_4cfef_23 0 rfl k))) ?_
    refine es_br (c := v16 < v19) (tgt := 29) (pf := 27) (st' := []) (fun _ _ a b => e_icmp_lt dJ1_indexOf_4cfef_24 rfl a b) (fun c20 => ?_) (fun c20 => ?_)
    · rw [if_pos c20] at hf
      refine es_l (pc' := 33) (ls' := [(3, .int v19), (2, .int v16), (0, .ref (w.2.2 (3 + i))), (1, .int x1)]) (st' := [.int v19, .int v16, .int x1, .ref (w.2.2 (3 + i))]) (fun _ _ k => e_aload_n dJ1_indexOf_4cfef_29 2 rfl (e_iload_n dJ1_indexOf_4cfef_30 3 rfl (e_iload_n dJ1_indexOf_4cfef_31 1 rfl (e_iload_n dJ1_indexOf_4cfef_32 0 rfl k)))) ?_
      refine es_callSI (as := [.ref (w.2.2 (3 + i)), .int x1, .int v16, .int v19]) (rest := []) hf dJ1_indexOf_4cfef_33 cs_J1_indexOf_4cfef_J1_indexOfChar_4cfef ml_J1_95 st_J1_indexOfChar_4cfef rfl rfl (Nat.le_of_ble_eq_true rfl) (Nat.le_of_ble_eq_true rfl) (fun _ e => t_J1_indexOfChar_4cfef N i x1 v16 v19 S18 _ e) (by decide) (fun v22 S21 hf => ?_)
      exact es_ireturn (ty := .int) dJ1_indexOf_4cfef_36 rfl rfl hf
    · rw [if_neg c20] at hf
      refine es_l (pc' := 28) (ls' := [(3, .int v19), (2, .int v16), (0, .ref (w.2.2 (3 + i))), (1, .int x1)]) (st' := [.int ((-1))]) (fun _ _ k => e_iconst (v := (-1)) dJ1_indexOf_4cfef_27 (by decide) k) ?_
      exact es_ireturn (ty := .int) dJ1_indexOf_4cfef_28 rfl rfl hf
def f_J0_indexOf_7cf53_36 (N : Nat) (i : Nat)  (s0 : Int32) (S : xS) : Option xr :=
  some (.inl (some (.inl s0)), S)
set_option maxRecDepth 100000 in
set_option maxHeartbeats 4000000 in
theorem t_J0_indexOf_7cf53_36 {l : Launch} {w : xW} {g : Nat → xE} (N : Nat) (i : Nat)   (s0 : Int32) (S : xS) (r : xr) (hf : f_J0_indexOf_7cf53_36 N i  s0 S = some r) : ES l w g M_J0_indexOf_7cf53 36 [] [.int s0] S r := by
  unfold f_J0_indexOf_7cf53_36 at hf
  exact es_ireturn (ty := .int) dJ0_indexOf_7cf53_36 rfl rfl hf
def f_J0_indexOf_7cf53 (N : Nat) (i : Nat) (x1 : Int32) (x2 : Int32) (S : xS) : Option xr :=
  if i < 3 then
  xcI (f_J0_isLatin1_aae02 N i S) (fun v22 S21 =>
  if v22 = 0 then
    xcI (f_J0_length_8abf5 N i S21) (fun v26 S25 =>
    none
    )
  else
    xcI (f_J0_length_8abf5 N i S21) (fun v28 S27 =>
    xcI (f_J1_indexOf_4cfef N i x1 x2 v28 S27) (fun v30 S29 =>
    f_J0_indexOf_7cf53_36 N i v30 S29
    )
    )
  )
  else none
set_option maxRecDepth 100000 in
set_option maxHeartbeats 4000000 in
theorem t_J0_indexOf_7cf53 {l : Launch} {w : xW} {g : Nat → xE} (N : Nat) (i : Nat) (x1 : Int32) (x2 : Int32) (S : xS) (r : xr) (hf : f_J0_indexOf_7cf53 N i x1 x2 S = some r) : ES l w g M_J0_indexOf_7cf53 0 (lv_args 0 [.ref (w.2.2 i), .int x1, .int x2]) [] S r := by
  show ES l w g M_J0_indexOf_7cf53 0 [(0, .ref (w.2.2 i)), (1, .int x1), (2, .int x2)] [] S r
  unfold f_J0_indexOf_7cf53 at hf
  refine es_l (pc' := 1) (ls' := [(0, .ref (w.2.2 i)), (1, .int x1), (2, .int x2)]) (st' := [.ref (w.2.2 i)]) (fun _ _ k => e_aload_n dJ0_indexOf_7cf53_0 0 rfl k) ?_
  obtain ⟨g23, hf⟩ := xg hf
  refine es_callTI (i := i) (as := []) (rest := []) hf g23 dJ0_indexOf_7cf53_1 cs_J0_indexOf_7cf53_J0_isLatin1_aae02 ml_J0_492 im_J0_isLatin1_aae02 se_J0_isLatin1_aae02 rfl rfl (Nat.le_of_ble_eq_true rfl) (Nat.le_of_ble_eq_true rfl) rfl (fun _ e => t_J0_isLatin1_aae02 N i S _ e) (by decide) (fun v22 S21 hf => ?_)
  refine es_br (c := v22 = 0) (tgt := 23) (pf := 7) (st' := []) (fun _ _ a b => e_if_eq dJ0_indexOf_7cf53_4 rfl a b) (fun c24 => ?_) (fun c24 => ?_)
  · rw [if_pos c24] at hf
    refine es_l (pc' := 24) (ls' := [(0, .ref (w.2.2 i)), (1, .int x1), (2, .int x2)]) (st' := [.ref (w.2.2 i)]) (fun _ _ k => e_aload_n dJ0_indexOf_7cf53_23 0 rfl k) ?_
    refine es_getV g23 dJ0_indexOf_7cf53_24 fs_J0_9 ?_
    refine es_l (pc' := 30) (ls' := [(0, .ref (w.2.2 i)), (1, .int x1), (2, .int x2)]) (st' := [.ref (w.2.2 i), .int x2, .int x1, .ref (w.2.2 (3 + i))]) (fun _ _ k => e_iload_n dJ0_indexOf_7cf53_27 1 rfl (e_iload_n dJ0_indexOf_7cf53_28 2 rfl (e_aload_n dJ0_indexOf_7cf53_29 0 rfl k))) ?_
    refine es_callTI (i := i) (as := []) (rest := [.int x2, .int x1, .ref (w.2.2 (3 + i))]) hf g23 dJ0_indexOf_7cf53_30 cs_J0_indexOf_7cf53_J0_length_8abf5 ml_J0_505 im_J0_length_8abf5 se_J0_length_8abf5 rfl rfl (Nat.le_of_ble_eq_true rfl) (Nat.le_of_ble_eq_true rfl) rfl (fun _ e => t_J0_length_8abf5 N i S21 _ e) (by decide) (fun v26 S25 hf => ?_)
    cases hf
  · rw [if_neg c24] at hf
    refine es_l (pc' := 8) (ls' := [(0, .ref (w.2.2 i)), (1, .int x1), (2, .int x2)]) (st' := [.ref (w.2.2 i)]) (fun _ _ k => e_aload_n dJ0_indexOf_7cf53_7 0 rfl k) ?_
    refine es_getV g23 dJ0_indexOf_7cf53_8 fs_J0_9 ?_
    refine es_l (pc' := 14) (ls' := [(0, .ref (w.2.2 i)), (1, .int x1), (2, .int x2)]) (st' := [.ref (w.2.2 i), .int x2, .int x1, .ref (w.2.2 (3 + i))]) (fun _ _ k => e_iload_n dJ0_indexOf_7cf53_11 1 rfl (e_iload_n dJ0_indexOf_7cf53_12 2 rfl (e_aload_n dJ0_indexOf_7cf53_13 0 rfl k))) ?_
    refine es_callTI (i := i) (as := []) (rest := [.int x2, .int x1, .ref (w.2.2 (3 + i))]) hf g23 dJ0_indexOf_7cf53_14 cs_J0_indexOf_7cf53_J0_length_8abf5 ml_J0_505 im_J0_length_8abf5 se_J0_length_8abf5 rfl rfl (Nat.le_of_ble_eq_true rfl) (Nat.le_of_ble_eq_true rfl) rfl (fun _ e => t_J0_length_8abf5 N i S21 _ e) (by decide) (fun v28 S27 hf => ?_)
    refine es_callSI (as := [.ref (w.2.2 (3 + i)), .int x1, .int x2, .int v28]) (rest := []) hf dJ0_indexOf_7cf53_17 cs_J0_indexOf_7cf53_J1_indexOf_4cfef ml_J0_637 st_J1_indexOf_4cfef rfl rfl (Nat.le_of_ble_eq_true rfl) (Nat.le_of_ble_eq_true rfl) (fun _ e => t_J1_indexOf_4cfef N i x1 x2 v28 S27 _ e) (by decide) (fun v30 S29 hf => ?_)
    refine es_l (pc' := 36) (ls' := [(0, .ref (w.2.2 i)), (1, .int x1), (2, .int x2)]) (st' := [.int v30]) (fun _ _ k => e_goto (tgt := 36) dJ0_indexOf_7cf53_20 rfl k) ?_
    refine es_sub [] rfl ?_
    exact t_J0_indexOf_7cf53_36 N i v30 S29 r hf
def f_J0_indexOf_0f7a4 (N : Nat) (i : Nat) (x1 : Int32) (S : xS) : Option xr :=
  if i < 3 then
  xcI (f_J0_indexOf_7cf53 N i x1 0 S) (fun v5 S4 =>
  some (.inl (some (.inl v5)), S4)
  )
  else none
set_option maxRecDepth 100000 in
set_option maxHeartbeats 4000000 in
theorem t_J0_indexOf_0f7a4 {l : Launch} {w : xW} {g : Nat → xE} (N : Nat) (i : Nat) (x1 : Int32) (S : xS) (r : xr) (hf : f_J0_indexOf_0f7a4 N i x1 S = some r) : ES l w g M_J0_indexOf_0f7a4 0 (lv_args 0 [.ref (w.2.2 i), .int x1]) [] S r := by
  show ES l w g M_J0_indexOf_0f7a4 0 [(0, .ref (w.2.2 i)), (1, .int x1)] [] S r
  unfold f_J0_indexOf_0f7a4 at hf
  refine es_l (pc' := 3) (ls' := [(0, .ref (w.2.2 i)), (1, .int x1)]) (st' := [.int 0, .int x1, .ref (w.2.2 i)]) (fun _ _ k => e_aload_n dJ0_indexOf_0f7a4_0 0 rfl (e_iload_n dJ0_indexOf_0f7a4_1 1 rfl (e_iconst (v := 0) dJ0_indexOf_0f7a4_2 (by decide) k))) ?_
  obtain ⟨g6, hf⟩ := xg hf
  refine es_callTI (i := i) (as := [.int x1, .int 0]) (rest := []) hf g6 dJ0_indexOf_0f7a4_3 cs_J0_indexOf_0f7a4_J0_indexOf_7cf53 ml_J0_633 im_J0_indexOf_7cf53 se_J0_indexOf_7cf53 rfl rfl (Nat.le_of_ble_eq_true rfl) (Nat.le_of_ble_eq_true rfl) rfl (fun _ e => t_J0_indexOf_7cf53 N i x1 0 S _ e) (by decide) (fun v5 S4 hf => ?_)
  exact es_ireturn (ty := .int) dJ0_indexOf_0f7a4_6 rfl rfl hf
def f_J1_charAt_3b067 (N : Nat) (i : Nat) (x1 : Int32) (S : xS) : Option xr :=
  if i < 3 then
  xcV (f_J0_checkIndex_df160 N x1 (Int32.ofNat (x_by i).length) S) (fun S7 =>
  if xin x1 (x_by i).length then
  if narrow .char (.int (((((x_by i).getD x1.toNatClampNeg 0) &&& 255 : Int32).toUInt32 % 65536).toInt32)) = .int (((((x_by i).getD x1.toNatClampNeg 0) &&& 255 : Int32).toUInt32 % 65536).toInt32) then
  some (.inl (some (.inl (((((x_by i).getD x1.toNatClampNeg 0) &&& 255 : Int32).toUInt32 % 65536).toInt32))), S7)
  else none
  else none
  )
  else none
set_option maxRecDepth 100000 in
set_option maxHeartbeats 4000000 in
theorem t_J1_charAt_3b067 {l : Launch} {w : xW} {g : Nat → xE} (N : Nat) (i : Nat) (x1 : Int32) (S : xS) (r : xr) (hf : f_J1_charAt_3b067 N i x1 S = some r) : ES l w g M_J1_charAt_3b067 0 (lv_args 0 [.ref (w.2.2 (3 + i)), .int x1]) [] S r := by
  show ES l w g M_J1_charAt_3b067 0 [(0, .ref (w.2.2 (3 + i))), (1, .int x1)] [] S r
  unfold f_J1_charAt_3b067 at hf
  refine es_l (pc' := 2) (ls' := [(0, .ref (w.2.2 (3 + i))), (1, .int x1)]) (st' := [.ref (w.2.2 (3 + i)), .int x1]) (fun _ _ k => e_iload_n dJ1_charAt_3b067_0 1 rfl (e_aload_n dJ1_charAt_3b067_1 0 rfl k)) ?_
  obtain ⟨g6, hf⟩ := xg hf
  refine es_alenV g6 dJ1_charAt_3b067_2 ?_
  refine es_callSV (as := [.int x1, .int (Int32.ofNat (x_by i).length)]) (rest := []) hf dJ1_charAt_3b067_3 cs_J1_charAt_3b067_J0_checkIndex_df160 ml_J1_9 st_J0_checkIndex_df160 rfl rfl (Nat.le_of_ble_eq_true rfl) (Nat.le_of_ble_eq_true rfl) (fun _ e => t_J0_checkIndex_df160 N x1 (Int32.ofNat (x_by i).length) S _ e) (by decide) (fun S7 hf => ?_)
  refine es_l (pc' := 8) (ls' := [(0, .ref (w.2.2 (3 + i))), (1, .int x1)]) (st' := [.int x1, .ref (w.2.2 (3 + i))]) (fun _ _ k => e_aload_n dJ1_charAt_3b067_6 0 rfl (e_iload_n dJ1_charAt_3b067_7 1 rfl k)) ?_
  obtain ⟨g9, hf⟩ := xg hf
  refine es_baldV g6 dJ1_charAt_3b067_8 g9 ?_
  refine es_l (pc' := 14) (ls' := [(0, .ref (w.2.2 (3 + i))), (1, .int x1)]) (st' := [.int (((((x_by i).getD x1.toNatClampNeg 0) &&& 255 : Int32).toUInt32 % 65536).toInt32)]) (fun _ _ k => e_sipush (v := 255) dJ1_charAt_3b067_9 (by decide) (e_iand dJ1_charAt_3b067_12 (e_i2c (v := ((((x_by i).getD x1.toNatClampNeg 0) &&& 255 : Int32).toUInt32 % 65536).toInt32) dJ1_charAt_3b067_13 rfl k))) ?_
  obtain ⟨g10, hf⟩ := xg hf
  exact es_ireturn (ty := .char) dJ1_charAt_3b067_14 rfl g10 hf
def f_J0_charAt_5068e (N : Nat) (i : Nat) (x1 : Int32) (S : xS) : Option xr :=
  if i < 3 then
  xcI (f_J0_isLatin1_aae02 N i S) (fun v9 S8 =>
  if v9 = 0 then
    none
  else
    xcI (f_J1_charAt_3b067 N i x1 S8) (fun v13 S12 =>
    if narrow .char (.int v13) = .int v13 then
    some (.inl (some (.inl v13)), S12)
    else none
    )
  )
  else none
set_option maxRecDepth 100000 in
set_option maxHeartbeats 4000000 in
theorem t_J0_charAt_5068e {l : Launch} {w : xW} {g : Nat → xE} (N : Nat) (i : Nat) (x1 : Int32) (S : xS) (r : xr) (hf : f_J0_charAt_5068e N i x1 S = some r) : ES l w g M_J0_charAt_5068e 0 (lv_args 0 [.ref (w.2.2 i), .int x1]) [] S r := by
  show ES l w g M_J0_charAt_5068e 0 [(0, .ref (w.2.2 i)), (1, .int x1)] [] S r
  unfold f_J0_charAt_5068e at hf
  refine es_l (pc' := 1) (ls' := [(0, .ref (w.2.2 i)), (1, .int x1)]) (st' := [.ref (w.2.2 i)]) (fun _ _ k => e_aload_n dJ0_charAt_5068e_0 0 rfl k) ?_
  obtain ⟨g10, hf⟩ := xg hf
  refine es_callTI (i := i) (as := []) (rest := []) hf g10 dJ0_charAt_5068e_1 cs_J0_charAt_5068e_J0_isLatin1_aae02 ml_J0_492 im_J0_isLatin1_aae02 se_J0_isLatin1_aae02 rfl rfl (Nat.le_of_ble_eq_true rfl) (Nat.le_of_ble_eq_true rfl) rfl (fun _ e => t_J0_isLatin1_aae02 N i S _ e) (by decide) (fun v9 S8 hf => ?_)
  refine es_br (c := v9 = 0) (tgt := 16) (pf := 7) (st' := []) (fun _ _ a b => e_if_eq dJ0_charAt_5068e_4 rfl a b) (fun c11 => ?_) (fun c11 => ?_)
  · rw [if_pos c11] at hf
    refine es_l (pc' := 17) (ls' := [(0, .ref (w.2.2 i)), (1, .int x1)]) (st' := [.ref (w.2.2 i)]) (fun _ _ k => e_aload_n dJ0_charAt_5068e_16 0 rfl k) ?_
    refine es_getV g10 dJ0_charAt_5068e_17 fs_J0_9 ?_
    refine es_l (pc' := 21) (ls' := [(0, .ref (w.2.2 i)), (1, .int x1)]) (st' := [.int x1, .ref (w.2.2 (3 + i))]) (fun _ _ k => e_iload_n dJ0_charAt_5068e_20 1 rfl k) ?_
    cases hf
  · rw [if_neg c11] at hf
    refine es_l (pc' := 8) (ls' := [(0, .ref (w.2.2 i)), (1, .int x1)]) (st' := [.ref (w.2.2 i)]) (fun _ _ k => e_aload_n dJ0_charAt_5068e_7 0 rfl k) ?_
    refine es_getV g10 dJ0_charAt_5068e_8 fs_J0_9 ?_
    refine es_l (pc' := 12) (ls' := [(0, .ref (w.2.2 i)), (1, .int x1)]) (st' := [.int x1, .ref (w.2.2 (3 + i))]) (fun _ _ k => e_iload_n dJ0_charAt_5068e_11 1 rfl k) ?_
    refine es_callSI (as := [.ref (w.2.2 (3 + i)), .int x1]) (rest := []) hf dJ0_charAt_5068e_12 cs_J0_charAt_5068e_J1_charAt_3b067 ml_J0_495 st_J1_charAt_3b067 rfl rfl (Nat.le_of_ble_eq_true rfl) (Nat.le_of_ble_eq_true rfl) (fun _ e => t_J1_charAt_3b067 N i x1 S8 _ e) (by decide) (fun v13 S12 hf => ?_)
    obtain ⟨g14, hf⟩ := xg hf
    exact es_ireturn (ty := .char) dJ0_charAt_5068e_15 rfl g14 hf
