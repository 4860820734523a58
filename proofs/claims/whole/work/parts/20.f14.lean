def f_X12_choose_56 (N : Nat) (k2 : Int32 → Int32 → Int32 → xS → Option xr) (x1 : Int32) (x2 : Int32) (x3 : Int32) (s0 : Int32) (s1 : Int32) (S : xS) : Option xr :=
  if xin s1 64 then
  if xbo s0 then
  k2 x1 x2 (x3 + 1) (sI S 531 s1.toNatClampNeg s0)
  else none
  else none
set_option maxRecDepth 100000 in
set_option maxHeartbeats 4000000 in
theorem t_X12_choose_56 {l : Launch} {w : xW} {g : Nat → xE} (N : Nat) (k2 : Int32 → Int32 → Int32 → xS → Option xr) (hk2 : ∀ (x1 : Int32) (x2 : Int32) (x3 : Int32) (S : xS) (r : xr), k2 x1 x2 x3 S = some r → ES l w g M_X12_choose 2 [(0, .ref (w.2.1 + 503)), (1, .int x1), (2, .int x2), (3, .int x3)] [] S r) (x1 : Int32) (x2 : Int32) (x3 : Int32) (s0 : Int32) (s1 : Int32) (S : xS) (r : xr) (hf : f_X12_choose_56 N k2 x1 x2 x3 s0 s1 S = some r) : ES l w g M_X12_choose 56 [(0, .ref (w.2.1 + 503)), (1, .int x1), (2, .int x2), (3, .int x3)] [.int s0, .int s1, .ref (w.2.1 + 531)] S r := by
  unfold f_X12_choose_56 at hf
  obtain ⟨g21, hf⟩ := xg hf
  obtain ⟨g22, hf⟩ := xg hf
  refine es_zast (y := s0) dX12_choose_56 (by decide) (cel_531 _) g21 (xbo_n g22) ?_
  refine es_l (pc' := 2) (ls' := [(3, .int (x3 + 1)), (0, .ref (w.2.1 + 503)), (1, .int x1), (2, .int x2)]) (st' := []) (fun _ _ k => e_iinc (v := x3 + 1) (ls' := [(3, .int (x3 + 1)), (0, .ref (w.2.1 + 503)), (1, .int x1), (2, .int x2)]) dX12_choose_57 3 rfl rfl (by decide) rfl (e_goto (tgt := 2) dX12_choose_60 rfl k)) ?_
  refine es_sub [1, 2, 3, 0] rfl ?_
  exact hk2 x1 x2 (x3 + 1) (sI S 531 s1.toNatClampNeg s0) r hf
def f_X12_choose_55 (N : Nat) (k2 : Int32 → Int32 → Int32 → xS → Option xr) (x1 : Int32) (x2 : Int32) (x3 : Int32) (s0 : Int32) (S : xS) : Option xr :=
  f_X12_choose_56 N k2 x1 x2 x3 0 s0 S
set_option maxRecDepth 100000 in
set_option maxHeartbeats 4000000 in
theorem t_X12_choose_55 {l : Launch} {w : xW} {g : Nat → xE} (N : Nat) (k2 : Int32 → Int32 → Int32 → xS → Option xr) (hk2 : ∀ (x1 : Int32) (x2 : Int32) (x3 : Int32) (S : xS) (r : xr), k2 x1 x2 x3 S = some r → ES l w g M_X12_choose 2 [(0, .ref (w.2.1 + 503)), (1, .int x1), (2, .int x2), (3, .int x3)] [] S r) (x1 : Int32) (x2 : Int32) (x3 : Int32) (s0 : Int32) (S : xS) (r : xr) (hf : f_X12_choose_55 N k2 x1 x2 x3 s0 S = some r) : ES l w g M_X12_choose 55 [(0, .ref (w.2.1 + 503)), (1, .int x1), (2, .int x2), (3, .int x3)] [.int s0, .ref (w.2.1 + 531)] S r := by
  unfold f_X12_choose_55 at hf
  refine es_l (pc' := 56) (ls' := [(0, .ref (w.2.1 + 503)), (1, .int x1), (2, .int x2), (3, .int x3)]) (st' := [.int 0, .int s0, .ref (w.2.1 + 531)]) (fun _ _ k => e_iconst (v := 0) dX12_choose_55 (by decide) k) ?_
  exact t_X12_choose_56 N k2 hk2 x1 x2 x3 0 s0 S r hf
def f_X12_choose_51 (N : Nat) (k2 : Int32 → Int32 → Int32 → xS → Option xr) (x1 : Int32) (x2 : Int32) (x3 : Int32) (s0 : Int32) (S : xS) : Option xr :=
  f_X12_choose_56 N k2 x1 x2 x3 1 s0 S
set_option maxRecDepth 100000 in
set_option maxHeartbeats 4000000 in
theorem t_X12_choose_51 {l : Launch} {w : xW} {g : Nat → xE} (N : Nat) (k2 : Int32 → Int32 → Int32 → xS → Option xr) (hk2 : ∀ (x1 : Int32) (x2 : Int32) (x3 : Int32) (S : xS) (r : xr), k2 x1 x2 x3 S = some r → ES l w g M_X12_choose 2 [(0, .ref (w.2.1 + 503)), (1, .int x1), (2, .int x2), (3, .int x3)] [] S r) (x1 : Int32) (x2 : Int32) (x3 : Int32) (s0 : Int32) (S : xS) (r : xr) (hf : f_X12_choose_51 N k2 x1 x2 x3 s0 S = some r) : ES l w g M_X12_choose 51 [(0, .ref (w.2.1 + 503)), (1, .int x1), (2, .int x2), (3, .int x3)] [.int s0, .ref (w.2.1 + 531)] S r := by
  unfold f_X12_choose_51 at hf
  refine es_l (pc' := 56) (ls' := [(0, .ref (w.2.1 + 503)), (1, .int x1), (2, .int x2), (3, .int x3)]) (st' := [.int 1, .int s0, .ref (w.2.1 + 531)]) (fun _ _ k => e_iconst (v := 1) dX12_choose_51 (by decide) (e_goto (tgt := 56) dX12_choose_52 rfl k)) ?_
  exact t_X12_choose_56 N k2 hk2 x1 x2 x3 1 s0 S r hf
def f_X12_choose_2 (N : Nat)  : Nat → Int32 → Int32 → Int32 → xS → Option xr
  | 0, _, _, _, _ => none
  | n + 1, x1, x2, x3, S =>
  if 64 ≤ x3 then
    some (.inl none, S)
  else
    if xin x3 64 then
    if (S.1 511 x3.toNatClampNeg) = (x1 + 1) then
      if xin x2 3000 then
      if (S.1 518 x2.toNatClampNeg) = 0 then
        f_X12_choose_51 N (f_X12_choose_2 N n) x1 x2 x3 x3 S
      else
        xcI (f_X12_eval N (x2 + 1) (S.1 518 x2.toNatClampNeg) x3 S) (fun v29 S28 =>
        if v29 = 0 then
          f_X12_choose_55 N (f_X12_choose_2 N n) x1 x2 x3 x3 S28
        else
          f_X12_choose_51 N (f_X12_choose_2 N n) x1 x2 x3 x3 S28
        )
      else none
    else
      f_X12_choose_55 N (f_X12_choose_2 N n) x1 x2 x3 x3 S
    else none
set_option maxRecDepth 100000 in
set_option maxHeartbeats 4000000 in
theorem t_X12_choose_2 {l : Launch} {w : xW} {g : Nat → xE} (N : Nat)   : ∀ (n : Nat) (x1 : Int32) (x2 : Int32) (x3 : Int32) (S : xS) (r : xr), f_X12_choose_2 N  n x1 x2 x3 S = some r → ES l w g M_X12_choose 2 [(0, .ref (w.2.1 + 503)), (1, .int x1), (2, .int x2), (3, .int x3)] [] S r := by
  intro n
  induction n with
  | zero => intro x1 x2 x3 S r hf; cases hf
  | succ n ih =>
    intro x1 x2 x3 S r hf
    rw [f_X12_choose_2.eq_2] at hf
    refine es_l (pc' := 5) (ls' := [(0, .ref (w.2.1 + 503)), (1, .int x1), (2, .int x2), (3, .int x3)]) (st' := [.int 64, .int x3]) (fun _ _ k => e_iload_n dX12_choose_2 3 rfl (e_bipush (v := 64) dX12_choose_3 (by decide) k)) ?_
    refine es_br (c := 64 ≤ x3) (tgt := 63) (pf := 8) (st' := []) (fun _ _ a b => e_icmp_ge dX12_choose_5 rfl a b) (fun c23 => ?_) (fun c23 => ?_)
    · rw [if_pos c23] at hf
      exact es_return dX12_choose_63 rfl hf
    · rw [if_neg c23] at hf
      refine es_l (pc' := 9) (ls' := [(0, .ref (w.2.1 + 503)), (1, .int x1), (2, .int x2), (3, .int x3)]) (st' := [.ref (w.2.1 + 503)]) (fun _ _ k => e_aload_n dX12_choose_8 0 rfl k) ?_
      refine es_get (v := .ref (w.2.1 + 531)) xc_12 dX12_choose_9 fl_X12_148 (by decide) (by decide) (cel_503 _ _ _) rfl ?_
      refine es_l (pc' := 14) (ls' := [(0, .ref (w.2.1 + 503)), (1, .int x1), (2, .int x2), (3, .int x3)]) (st' := [.ref (w.2.1 + 503), .int x3, .ref (w.2.1 + 531)]) (fun _ _ k => e_iload_n dX12_choose_12 3 rfl (e_aload_n dX12_choose_13 0 rfl k)) ?_
      refine es_get (v := .ref (w.2.1 + 511)) xc_12 dX12_choose_14 fl_X12_45 (by decide) (by decide) (cel_503 _ _ _) rfl ?_
      refine es_l (pc' := 18) (ls' := [(0, .ref (w.2.1 + 503)), (1, .int x1), (2, .int x2), (3, .int x3)]) (st' := [.int x3, .ref (w.2.1 + 511), .int x3, .ref (w.2.1 + 531)]) (fun _ _ k => e_iload_n dX12_choose_17 3 rfl k) ?_
      obtain ⟨g24, hf⟩ := xg hf
      refine es_iald (v := .int (S.1 511 x3.toNatClampNeg)) dX12_choose_18 (by decide) (cel_511 _ _ _) g24 rfl ?_
      refine es_l (pc' := 22) (ls' := [(0, .ref (w.2.1 + 503)), (1, .int x1), (2, .int x2), (3, .int x3)]) (st' := [.int (x1 + 1), .int (S.1 511 x3.toNatClampNeg), .int x3, .ref (w.2.1 + 531)]) (fun _ _ k => e_iload_n dX12_choose_19 1 rfl (e_iconst (v := 1) dX12_choose_20 (by decide) (e_iadd dX12_choose_21 k))) ?_
      refine es_br (c := (S.1 511 x3.toNatClampNeg) = (x1 + 1)) (tgt := 25) (pf := 55) (st' := [.int x3, .ref (w.2.1 + 531)]) (fun _ _ a b => e_icmp_ne dX12_choose_22 rfl b a) (fun c25 => ?_) (fun c25 => ?_)
      · rw [if_pos c25] at hf
        refine es_l (pc' := 26) (ls' := [(0, .ref (w.2.1 + 503)), (1, .int x1), (2, .int x2), (3, .int x3)]) (st' := [.ref (w.2.1 + 503), .int x3, .ref (w.2.1 + 531)]) (fun _ _ k => e_aload_n dX12_choose_25 0 rfl k) ?_
        refine es_get (v := .ref (w.2.1 + 518)) xc_12 dX12_choose_26 fl_X12_85 (by decide) (by decide) (cel_503 _ _ _) rfl ?_
        refine es_l (pc' := 30) (ls' := [(0, .ref (w.2.1 + 503)), (1, .int x1), (2, .int x2), (3, .int x3)]) (st' := [.int x2, .ref (w.2.1 + 518), .int x3, .ref (w.2.1 + 531)]) (fun _ _ k => e_iload_n dX12_choose_29 2 rfl k) ?_
        obtain ⟨g26, hf⟩ := xg hf
        refine es_iald (v := .int (S.1 518 x2.toNatClampNeg)) dX12_choose_30 (by decide) (cel_518 _ _ _) g26 rfl ?_
        refine es_br (c := (S.1 518 x2.toNatClampNeg) = 0) (tgt := 51) (pf := 34) (st' := [.int x3, .ref (w.2.1 + 531)]) (fun _ _ a b => e_if_eq dX12_choose_31 rfl a b) (fun c27 => ?_) (fun c27 => ?_)
        · rw [if_pos c27] at hf
          exact t_X12_choose_51 N (f_X12_choose_2 N n) ih x1 x2 x3 x3 S r hf
        · rw [if_neg c27] at hf
          refine es_l (pc' := 39) (ls' := [(0, .ref (w.2.1 + 503)), (1, .int x1), (2, .int x2), (3, .int x3)]) (st' := [.ref (w.2.1 + 503), .int (x2 + 1), .ref (w.2.1 + 503), .int x3, .ref (w.2.1 + 531)]) (fun _ _ k => e_aload_n dX12_choose_34 0 rfl (e_iload_n dX12_choose_35 2 rfl (e_iconst (v := 1) dX12_choose_36 (by decide) (e_iadd dX12_choose_37 (e_aload_n dX12_choose_38 0 rfl k))))) ?_
          refine es_get (v := .ref (w.2.1 + 518)) xc_12 dX12_choose_39 fl_X12_85 (by decide) (by decide) (cel_503 _ _ _) rfl ?_
          refine es_l (pc' := 43) (ls' := [(0, .ref (w.2.1 + 503)), (1, .int x1), (2, .int x2), (3, .int x3)]) (st' := [.int x2, .ref (w.2.1 + 518), .int (x2 + 1), .ref (w.2.1 + 503), .int x3, .ref (w.2.1 + 531)]) (fun _ _ k => e_iload_n dX12_choose_42 2 rfl k) ?_
          refine es_iald (v := .int (S.1 518 x2.toNatClampNeg)) dX12_choose_43 (by decide) (cel_518 _ _ _) g26 rfl ?_
          refine es_l (pc' := 45) (ls' := [(0, .ref (w.2.1 + 503)), (1, .int x1), (2, .int x2), (3, .int x3)]) (st' := [.int x3, .int (S.1 518 x2.toNatClampNeg), .int (x2 + 1), .ref (w.2.1 + 503), .int x3, .ref (w.2.1 + 531)]) (fun _ _ k => e_iload_n dX12_choose_44 3 rfl k) ?_
          refine es_callVI (as := [.int (x2 + 1), .int (S.1 518 x2.toNatClampNeg), .int x3]) (rest := [.int x3, .ref (w.2.1 + 531)]) hf xc_12 dX12_choose_45 cs_X12_choose_X12_eval ml_X12_387 im_X12_eval se_X12_eval rfl rfl (Nat.le_of_ble_eq_true rfl) (Nat.le_of_ble_eq_true rfl) (by decide) rfl (cel_503 _ _ _) (fun _ e => t_X12_eval N (x2 + 1) (S.1 518 x2.toNatClampNeg) x3 S _ e) (by decide) (fun v29 S28 hf => ?_)
          refine es_br (c := v29 = 0) (tgt := 55) (pf := 51) (st' := [.int x3, .ref (w.2.1 + 531)]) (fun _ _ a b => e_if_eq dX12_choose_48 rfl a b) (fun c30 => ?_) (fun c30 => ?_)
          · rw [if_pos c30] at hf
            exact t_X12_choose_55 N (f_X12_choose_2 N n) ih x1 x2 x3 x3 S28 r hf
          · rw [if_neg c30] at hf
            exact t_X12_choose_51 N (f_X12_choose_2 N n) ih x1 x2 x3 x3 S28 r hf
      · rw [if_neg c25] at hf
        exact t_X12_choose_55 N (f_X12_choose_2 N n) ih x1 x2 x3 x3 S r hf
def f_X12_choose (N : Nat) (x1 : Int32) (x2 : Int32) (S : xS) : Option xr :=
  f_X12_choose_2 N N x1 x2 0 S
set_option maxRecDepth 100000 in
set_option maxHeartbeats 4000000 in
theorem t_X12_choose {l : Launch} {w : xW} {g : Nat → xE} (N : Nat) (x1 : Int32) (x2 : Int32) (S : xS) (r : xr) (hf : f_X12_choose N x1 x2 S = some r) : ES l w g M_X12_choose 0 (lv_args 0 [.ref (w.2.1 + 503), .int x1, .int x2]) [] S r := by
  show ES l w g M_X12_choose 0 [(0, .ref (w.2.1 + 503)), (1, .int x1), (2, .int x2)] [] S r
  unfold f_X12_choose at hf
  refine es_l (pc' := 2) (ls' := [(3, .int 0), (0, .ref (w.2.1 + 503)), (1, .int x1), (2, .int x2)]) (st' := []) (fun _ _ k => e_iconst (v := 0) dX12_choose_0 (by decide) (e_istore_n (ls' := [(3, .int 0), (0, .ref (w.2.1 + 503)), (1, .int x1), (2, .int x2)]) dX12_choose_1 (by decide) rfl k)) ?_
  refine es_sub [1, 2, 3, 0] rfl ?_
  exact t_X12_choose_2 N N x1 x2 0 S r hf
def f_X12_insert_117 (N : Nat)  : Nat → Int32 → Int32 → Int32 → Int32 → Int32 → xS → Option xr
  | 0, _, _, _, _, _, _ => none
  | n + 1, x1, x2, x3, x4, x5, S =>
  if x3 ≤ x5 then
    some (.inl (some (.inl 1)), S)
  else
    if xin ((x1 + 3) + x5) 3000 then
    if xin x5 8 then
    xcI (f_X12_cut N x2 (S.1 518 (((x1 + 3) + x5).toNatClampNeg)) (S.1 525 x5.toNatClampNeg) S) (fun v35 S34 =>
    if xin ((6 * x4) + (S.1 518 (((x1 + 3) + x5).toNatClampNeg))) 384 then
    f_X12_insert_117 N n x1 x2 x3 x4 (x5 + 1) (sI S34 512 (((6 * x4) + (S.1 518 (((x1 + 3) + x5).toNatClampNeg))).toNatClampNeg) v35)
    else none
    )
    else none
    else none
set_option maxRecDepth 100000 in
set_option maxHeartbeats 4000000 in
theorem t_X12_insert_117 {l : Launch} {w : xW} {g : Nat → xE} (N : Nat)   : ∀ (n : Nat) (x1 : Int32) (x2 : Int32) (x3 : Int32) (x4 : Int32) (x5 : Int32) (S : xS) (r : xr), f_X12_insert_117 N  n x1 x2 x3 x4 x5 S = some r → ES l w g M_X12_insert 117 [(0, .ref (w.2.1 + 503)), (1, .int x1), (2, .int x2), (3, .int x3), (4, .int x4), (5, .int x5)] [] S r := by
  intro n
  induction n with
  | zero => intro x1 x2 x3 x4 x5 S r hf; cases hf
  | succ n ih =>
    intro x1 x2 x3 x4 x5 S r hf
    rw [f_X12_insert_117.eq_2] at hf
    refine es_l (pc' := 120) (ls' := [(0, .ref (w.2.1 + 503)), (1, .int x1), (2, .int x2), (3, .int x3), (4, .int x4), (5, .int x5)]) (st' := [.int x3, .int x5]) (fun _ _ k => e_iload dX12_insert_117 5 rfl (e_iload_n dX12_insert_119 3 rfl k)) ?_
    refine es_br (c := x3 ≤ x5) (tgt := 174) (pf := 123) (st' := []) (fun _ _ a b => e_icmp_ge dX12_insert_120 rfl a b) (fun c31 => ?_) (fun c31 => ?_)
    · rw [if_pos c31] at hf
      refine es_l (pc' := 175) (ls' := [(0, .ref (w.2.1 + 503)), (1, .int x1), (2, .int x2), (3, .int x3), (4, .int x4), (5, .int x5)]) (st' := [.int 1]) (fun _ _ k => e_iconst (v := 1) dX12_insert_174 (by decide) k) ?_
      exact es_ireturn (ty := .boolean) dX12_insert_175 rfl rfl hf
    · rw [if_neg c31] at hf
      refine es_l (pc' := 124) (ls' := [(0, .ref (w.2.1 + 503)), (1, .int x1), (2, .int x2), (3, .int x3), (4, .int x4), (5, .int x5)]) (st' := [.ref (w.2.1 + 503)]) (fun _ _ k => e_aload_n dX12_insert_123 0 rfl k) ?_
      refine es_get (v := .ref (w.2.1 + 512)) xc_12 dX12_insert_124 fl_X12_48 (by decide) (by decide) (cel_503 _ _ _) rfl ?_
      refine es_l (pc' := 133) (ls' := [(0, .ref (w.2.1 + 503)), (1, .int x1), (2, .int x2), (3, .int x3), (4, .int x4), (5, .int x5)]) (st' := [.ref (w.2.1 + 503), .int (6 * x4), .ref (w.2.1 + 512)]) (fun _ _ k => e_bipush (v := 6) dX12_insert_127 (by decide) (e_iload dX12_insert_129 4 rfl (e_imul dX12_insert_131 (e_aload_n dX12_insert_132 0 rfl k)))) ?_
      refine es_get (v := .ref (w.2.1 + 518)) xc_12 dX12_insert_133 fl_X12_85 (by decide) (by decide) (cel_503 _ _ _) rfl ?_
      refine es_l (pc' := 142) (ls' := [(0, .ref (w.2.1 + 503)), (1, .int x1), (2, .int x2), (3, .int x3), (4, .int x4), (5, .int x5)]) (st' := [.int ((x1 + 3) + x5), .ref (w.2.1 + 518), .int (6 * x4), .ref (w.2.1 + 512)]) (fun _ _ k => e_iload_n dX12_insert_136 1 rfl (e_iconst (v := 3) dX12_insert_137 (by decide) (e_iadd dX12_insert_138 (e_iload dX12_insert_139 5 rfl (e_iadd dX12_insert_141 k))))) ?_
      obtain ⟨g32, hf⟩ := xg hf
      refine es_iald (v := .int (S.1 518 (((x1 + 3) + x5).toNatClampNeg))) dX12_insert_142 (by decide) (cel_518 _ _ _) g32 rfl ?_
      refine es_l (pc' := 147) (ls' := [(0, .ref (w.2.1 + 503)), (1, .int x1), (2, .int x2), (3, .int x3), (4, .int x4), (5, .int x5)]) (st' := [.ref (w.2.1 + 503), .int x2, .ref (w.2.1 + 503), .int ((6 * x4) + (S.1 518 (((x1 + 3) + x5).toNatClampNeg))), .ref (w.2.1 + 512)]) (fun _ _ k => e_iadd dX12_insert_143 (e_aload_n dX12_insert_144 0 rfl (e_iload_n dX12_insert_145 2 rfl (e_aload_n dX12_insert_146 0 rfl k)))) ?_
      refine es_get (v := .ref (w.2.1 + 518)) xc_12 dX12_insert_147 fl_X12_85 (by decide) (by decide) (cel_503 _ _ _) rfl ?_
      refine es_l (pc' := 156) (ls' := [(0, .ref (w.2.1 + 503)), (1, .int x1), (2, .int x2), (3, .int x3), (4, .int x4), (5, .int x5)]) (st' := [.int ((x1 + 3) + x5), .ref (w.2.1 + 518), .int x2, .ref (w.2.1 + 503), .int ((6 * x4) + (S.1 518 (((x1 + 3) + x5).toNatClampNeg))), .ref (w.2.1 + 512)]) (fun _ _ k => e_iload_n dX12_insert_150 1 rfl (e_iconst (v := 3) dX12_insert_151 (by decide) (e_iadd dX12_insert_152 (e_iload dX12_insert_153 5 rfl (e_iadd dX12_insert_155 k))))) ?_
      refine es_iald (v := .int (S.1 518 (((x1 + 3) + x5).toNatClampNeg))) dX12_insert_156 (by decide) (cel_518 _ _ _) g32 rfl ?_
      refine es_l (pc' := 158) (ls' := [(0, .ref (w.2.1 + 503)), (1, .int x1), (2, .int x2), (3, .int x3), (4, .int x4), (5, .int x5)]) (st' := [.ref (w.2.1 + 503), .int (S.1 518 (((x1 + 3) + x5).toNatClampNeg)), .int x2, .ref (w.2.1 + 503), .int ((6 * x4) + (S.1 518 (((x1 + 3) + x5).toNatClampNeg))), .ref (w.2.1 + 512)]) (fun _ _ k => e_aload_n dX12_insert_157 0 rfl k) ?_
      refine es_get (v := .ref (w.2.1 + 525)) xc_12 dX12_insert_158 fl_X12_127 (by decide) (by decide) (cel_503 _ _ _) rfl ?_
      refine es_l (pc' := 163) (ls' := [(0, .ref (w.2.1 + 503)), (1, .int x1), (2, .int x2), (3, .int x3), (4, .int x4), (5, .int x5)]) (st' := [.int x5, .ref (w.2.1 + 525), .int (S.1 518 (((x1 + 3) + x5).toNatClampNeg)), .int x2, .ref (w.2.1 + 503), .int ((6 * x4) + (S.1 518 (((x1 + 3) + x5).toNatClampNeg))), .ref (w.2.1 + 512)]) (fun _ _ k => e_iload dX12_insert_161 5 rfl k) ?_
      obtain ⟨g33, hf⟩ := xg hf
      refine es_iald (v := .int (S.1 525 x5.toNatClampNeg)) dX12_insert_163 (by decide) (cel_525 _ _ _) g33 rfl ?_
      refine es_callVI (as := [.int x2, .int (S.1 518 (((x1 + 3) + x5).toNatClampNeg)), .int (S.1 525 x5.toNatClampNeg)]) (rest := [.int ((6 * x4) + (S.1 518 (((x1 + 3) + x5).toNatClampNeg))), .ref (w.2.1 + 512)]) hf xc_12 dX12_insert_164 cs_X12_insert_X12_cut ml_X12_390 im_X12_cut se_X12_cut rfl rfl (Nat.le_of_ble_eq_true rfl) (Nat.le_of_ble_eq_true rfl) (by decide) rfl (cel_503 _ _ _) (fun _ e => t_X12_cut N x2 (S.1 518 (((x1 + 3) + x5).toNatClampNeg)) (S.1 525 x5.toNatClampNeg) S _ e) (by decide) (fun v35 S34 hf => ?_)
      obtain ⟨g36, hf⟩ := xg hf
      refine es_iast dX12_insert_167 (by decide) (cel_512 _) g36 ?_
      refine es_l (pc' := 117) (ls' := [(5, .int (x5 + 1)), (0, .ref (w.2.1 + 503)), (1, .int x1), (2, .int x2), (3, .int x3), (4, .int x4)]) (st' := []) (fun _ _ k => e_iinc (v := x5 + 1) (ls' := [(5, .int (x5 + 1)), (0, .ref (w.2.1 + 503)), (1, .int x1), (2, .int x2), (3, .int x3), (4, .int x4)]) dX12_insert_168 5 rfl rfl (by decide) rfl (e_goto (tgt := 117) dX12_insert_171 rfl k)) ?_
      refine es_sub [1, 2, 3, 4, 5, 0] rfl ?_
      exact ih x1 x2 x3 x4 (x5 + 1) (sI S34 512 (((6 * x4) + (S.1 518 (((x1 + 3) + x5).toNatClampNeg))).toNatClampNeg) v35) r hf
def f_X12_insert_87 (N : Nat)  : Nat → Int32 → Int32 → Int32 → Int32 → Int32 → xS → Option xr
  | 0, _, _, _, _, _, _ => none
  | n + 1, x1, x2, x3, x4, x5, S =>
  if 6 ≤ x5 then
    f_X12_insert_117 N N x1 x2 x3 x4 0 S
  else
    if xin ((6 * x4) + x5) 384 then
    f_X12_insert_87 N n x1 x2 x3 x4 (x5 + 1) (sI S 512 (((6 * x4) + x5).toNatClampNeg) 0)
    else none
set_option maxRecDepth 100000 in
set_option maxHeartbeats 4000000 in
theorem t_X12_insert_87 {l : Launch} {w : xW} {g : Nat → xE} (N : Nat)   : ∀ (n : Nat) (x1 : Int32) (x2 : Int32) (x3 : Int32) (x4 : Int32) (x5 : Int32) (S : xS) (r : xr), f_X12_insert_87 N  n x1 x2 x3 x4 x5 S = some r → ES l w g M_X12_insert 87 [(0, .ref (w.2.1 + 503)), (1, .int x1), (2, .int x2), (3, .int x3), (4, .int x4), (5, .int x5)] [] S r := by
  intro n
  induction n with
  | zero => intro x1 x2 x3 x4 x5 S r hf; cases hf
  | succ n ih =>
    intro x1 x2 x3 x4 x5 S r hf
    rw [f_X12_insert_87.eq_2] at hf
    refine es_l (pc' := 91) (ls' := [(0, .ref (w.2.1 + 503)), (1, .int x1), (2, .int x2), (3, .int x3), (4, .int x4), (5, .int x5)]) (st' := [.int 6, .int x5]) (fun _ _ k => e_iload dX12_insert_87 5 rfl (e_bipush (v := 6) dX12_insert_89 (by decide) k)) ?_
    refine es_br (c := 6 ≤ x5) (tgt := 114) (pf := 94) (st' := []) (fun _ _ a b => e_icmp_ge dX12_insert_91 rfl a b) (fun c37 => ?_) (fun c37 => ?_)
    · rw [if_pos c37] at hf
      refine es_l (pc' := 117) (ls' := [(5, .int 0), (0, .ref (w.2.1 + 503)), (1, .int x1), (2, .int x2), (3, .int x3), (4, .int x4)]) (st' := []) (fun _ _ k => e_iconst (v := 0) dX12_insert_114 (by decide) (e_istore (ls' := [(5, .int 0), (0, .ref (w.2.1 + 503)), (1, .int x1), (2, .int x2), (3, .int x3), (4, .int x4)]) dX12_insert_115 (by decide) rfl k)) ?_
      refine es_sub [1, 2, 3, 4, 5, 0] rfl ?_
      exact t_X12_insert_117 N N x1 x2 x3 x4 0 S r hf
    · rw [if_neg c37] at hf
      refine es_l (pc' := 95) (ls' := [(0, .ref (w.2.1 + 503)), (1, .int x1), (2, .int x2), (3, .int x3), (4, .int x4), (5, .int x5)]) (st' := [.ref (w.2.1 + 503)]) (fun _ _ k => e_aload_n dX12_insert_94 0 rfl k) ?_
      refine es_get (v := .ref (w.2.1 + 512)) xc_12 dX12_insert_95 fl_X12_48 (by decide) (by decide) (cel_503 _ _ _) rfl ?_
      refine es_l (pc' := 107) (ls' := [(0, .ref (w.2.1 + 503)), (1, .int x1), (2, .int x2), (3, .int x3), (4, .int x4), (5, .int x5)]) (st' := [.int 0, .int ((6 * x4) + x5), .ref (w.2.1 + 512)]) (fun _ _ k => e_bipush (v := 6) dX12_insert_98 (by decide) (e_iload dX12_insert_100 4 rfl (e_imul dX12_insert_102 (e_iload dX12_insert_103 5 rfl (e_iadd dX12_insert_105 (e_iconst (v := 0) dX12_insert_106 (by decide) k)))))) ?_
      obtain ⟨g38, hf⟩ := xg hf
      refine es_iast dX12_insert_107 (by decide) (cel_512 _) g38 ?_
      refine es_l (pc' := 87) (ls' := [(5, .int (x5 + 1)), (0, .ref (w.2.1 + 503)), (1, .int x1), (2, .int x2), (3, .int x3), (4, .int x4)]) (st' := []) (fun _ _ k => e_iinc (v := x5 + 1) (ls' := [(5, .int (x5 + 1)), (0, .ref (w.2.1 + 503)), (1, .int x1), (2, .int x2), (3, .int x3), (4, .int x4)]) dX12_insert_108 5 rfl rfl (by decide) rfl (e_goto (tgt := 87) dX12_insert_111 rfl k)) ?_
      refine es_sub [1, 2, 3, 4, 5, 0] rfl ?_
      exact ih x1 x2 x3 x4 (x5 + 1) (sI S 512 (((6 * x4) + x5).toNatClampNeg) 0) r hf
def f_X12_insert_44 (N : Nat)  (x1 : Int32) (x2 : Int32) (x3 : Int32) (x4 : Int32) (S : xS) : Option xr :=
  if x4 = 64 then
    some (.inl (some (.inl 0)), S)
  else
    if xin x4 64 then
    f_X12_insert_87 N N x1 x2 x3 x4 0 (sI (sI (sI S 511 x4.toNatClampNeg (x2 + 1)) 503 14 ((S.1 503 14) + 1)) 513 x4.toNatClampNeg ((S.1 503 14) + 1))
    else none
set_option maxRecDepth 100000 in
set_option maxHeartbeats 4000000 in
theorem t_X12_insert_44 {l : Launch} {w : xW} {g : Nat → xE} (N : Nat)   (x1 : Int32) (x2 : Int32) (x3 : Int32) (x4 : Int32) (S : xS) (r : xr) (hf : f_X12_insert_44 N  x1 x2 x3 x4 S = some r) : ES l w g M_X12_insert 44 [(0, .ref (w.2.1 + 503)), (1, .int x1), (2, .int x2), (3, .int x3), (4, .int x4)] [] S r := by
  unfold f_X12_insert_44 at hf
  refine es_l (pc' := 48) (ls' := [(0, .ref (w.2.1 + 503)), (1, .int x1), (2, .int x2), (3, .int x3), (4, .int x4)]) (st' := [.int 64, .int x4]) (fun _ _ k => e_iload dX12_insert_44 4 rfl (e_bipush (v := 64) dX12_insert_46 (by decide) k)) ?_
  refine es_br (c := x4 = 64) (tgt := 51) (pf := 53) (st' := []) (fun _ _ a b => e_icmp_ne dX12_insert_48 rfl b a) (fun c39 => ?_) (fun c39 => ?_)
  · rw [if_pos c39] at hf
    refine es_l (pc' := 52) (ls' := [(0, .ref (w.2.1 + 503)), (1, .int x1), (2, .int x2), (3, .int x3), (4, .int x4)]) (st' := [.int 0]) (fun _ _ k => e_iconst (v := 0) dX12_insert_51 (by decide) k) ?_
    exact es_ireturn (ty := .boolean) dX12_insert_52 rfl rfl hf
  · rw [if_neg c39] at hf
    refine es_l (pc' := 54) (ls' := [(0, .ref (w.2.1 + 503)), (1, .int x1), (2, .int x2), (3, .int x3), (4, .int x4)]) (st' := [.ref (w.2.1 + 503)]) (fun _ _ k => e_aload_n dX12_insert_53 0 rfl k) ?_
    refine es_get (v := .ref (w.2.1 + 511)) xc_12 dX12_insert_54 fl_X12_45 (by decide) (by decide) (cel_503 _ _ _) rfl ?_
    refine es_l (pc' := 62) (ls' := [(0, .ref (w.2.1 + 503)), (1, .int x1), (2, .int x2), (3, .int x3), (4, .int x4)]) (st' := [.int (x2 + 1), .int x4, .ref (w.2.1 + 511)]) (fun _ _ k => e_iload dX12_insert_57 4 rfl (e_iload_n dX12_insert_59 2 rfl (e_iconst (v := 1) dX12_insert_60 (by decide) (e_iadd dX12_insert_61 k)))) ?_
    obtain ⟨g40, hf⟩ := xg hf
    refine es_iast dX12_insert_62 (by decide) (cel_511 _) g40 ?_
    refine es_l (pc' := 65) (ls' := [(0, .ref (w.2.1 + 503)), (1, .int x1), (2, .int x2), (3, .int x3), (4, .int x4)]) (st' := [.ref (w.2.1 + 503), .ref (w.2.1 + 503)]) (fun _ _ k => e_aload_n dX12_insert_63 0 rfl (e_dup dX12_insert_64 rfl k)) ?_
    refine es_get (v := .int (S.1 503 14)) xc_12 dX12_insert_65 fl_X12_54 (by decide) (by decide) (cel_503 _ _ _) rfl ?_
    refine es_l (pc' := 70) (ls' := [(0, .ref (w.2.1 + 503)), (1, .int x1), (2, .int x2), (3, .int x3), (4, .int x4)]) (st' := [.int ((S.1 503 14) + 1), .ref (w.2.1 + 503)]) (fun _ _ k => e_iconst (v := 1) dX12_insert_68 (by decide) (e_iadd dX12_insert_69 k)) ?_
    refine es_put xc_12 dX12_insert_70 fl_X12_54 (by decide) (by decide) (by decide) (cel_503 _ _ _) rfl rfl rfl rfl ?_
    refine es_l (pc' := 74) (ls' := [(0, .ref (w.2.1 + 503)), (1, .int x1), (2, .int x2), (3, .int x3), (4, .int x4)]) (st' := [.ref (w.2.1 + 503)]) (fun _ _ k => e_aload_n dX12_insert_73 0 rfl k) ?_
    refine es_get (v := .ref (w.2.1 + 513)) xc_12 dX12_insert_74 fl_X12_51 (by decide) (by decide) (cel_503 _ _ _) rfl ?_
    refine es_l (pc' := 80) (ls' := [(0, .ref (w.2.1 + 503)), (1, .int x1), (2, .int x2), (3, .int x3), (4, .int x4)]) (st' := [.ref (w.2.1 + 503), .int x4, .ref (w.2.1 + 513)]) (fun _ _ k => e_iload dX12_insert_77 4 rfl (e_aload_n dX12_insert_79 0 rfl k)) ?_
    refine es_get (v := .int ((S.1 503 14) + 1)) xc_12 dX12_insert_80 fl_X12_54 (by decide) (by decide) (cel_503 _ _ _) rfl ?_
    refine es_iast dX12_insert_83 (by decide) (cel_513 _) g40 ?_
    refine es_l (pc' := 87) (ls' := [(5, .int 0), (0, .ref (w.2.1 + 503)), (1, .int x1), (2, .int x2), (3, .int x3), (4, .int x4)]) (st' := []) (fun _ _ k => e_iconst (v := 0) dX12_insert_84 (by decide) (e_istore (ls' := [(5, .int 0), (0, .ref (w.2.1 + 503)), (1, .int x1), (2, .int x2), (3, .int x3), (4, .int x4)]) dX12_insert_85 (by decide) rfl k)) ?_
    refine es_sub [1, 2, 3, 4, 5, 0] rfl ?_
    exact t_X12_insert_87 N N x1 x2 x3 x4 0 (sI (sI (sI S 511 x4.toNatClampNeg (x2 + 1)) 503 14 ((S.1 503 14) + 1)) 513 x4.toNatClampNeg ((S.1 503 14) + 1)) r hf
def f_X12_insert_21 (N : Nat)  : Nat → Int32 → Int32 → Int32 → Int32 → xS → Option xr
  | 0, _, _, _, _, _ => none
  | n + 1, x1, x2, x3, x4, S =>
  if 64 ≤ x4 then
    f_X12_insert_44 N x1 x2 x3 x4 S
  else
    if xin x4 64 then
    if (S.1 511 x4.toNatClampNeg) = 0 then
      f_X12_insert_44 N x1 x2 x3 x4 S
    else
      f_X12_insert_21 N n x1 x2 x3 (x4 + 1) S
    else none
set_option maxRecDepth 100000 in
set_option maxHeartbeats 4000000 in
theorem t_X12_insert_21 {l : Launch} {w : xW} {g : Nat → xE} (N : Nat)   : ∀ (n : Nat) (x1 : Int32) (x2 : Int32) (x3 : Int32) (x4 : Int32) (S : xS) (r : xr), f_X12_insert_21 N  n x1 x2 x3 x4 S = some r → ES l w g M_X12_insert 21 [(0, .ref (w.2.1 + 503)), (1, .int x1), (2, .int x2), (3, .int x3), (4, .int x4)] [] S r := by
  intro n
  induction n with
  | zero => intro x1 x2 x3 x4 S r hf; cases hf
  | succ n ih =>
    intro x1 x2 x3 x4 S r hf
    rw [f_X12_insert_21.eq_2] at hf
    refine es_l (pc' := 25) (ls' := [(0, .ref (w.2.1 + 503)), (1, .int x1), (2, .int x2), (3, .int x3), (4, .int x4)]) (st' := [.int 64, .int x4]) (fun _ _ k => e_iload dX12_insert_21 4 rfl (e_bipush (v := 64) dX12_insert_23 (by decide) k)) ?_
    refine es_br (c := 64 ≤ x4) (tgt := 44) (pf := 28) (st' := []) (fun _ _ a b => e_icmp_ge dX12_insert_25 rfl a b) (fun c41 => ?_) (fun c41 => ?_)
    · rw [if_pos c41] at hf
      exact t_X12_insert_44 N x1 x2 x3 x4 S r hf
    · rw [if_neg c41] at hf
      refine es_l (pc' := 29) (ls' := [(0, .ref (w.2.1 + 503)), (1, .int x1), (2, .int x2), (3, .int x3), (4, .int x4)]) (st' := [.ref (w.2.1 + 503)]) (fun _ _ k => e_aload_n dX12_insert_28 0 rfl k) ?_
      refine es_get (v := .ref (w.2.1 + 511)) xc_12 dX12_insert_29 fl_X12_45 (by decide) (by decide) (cel_503 _ _ _) rfl ?_
      refine es_l (pc' := 34) (ls' := [(0, .ref (w.2.1 + 503)), (1, .int x1), (2, .int x2), (3, .int x3), (4, .int x4)]) (st' := [.int x4, .ref (w.2.1 + 511)]) (fun _ _ k => e_iload dX12_insert_32 4 rfl k) ?_
      obtain ⟨g42, hf⟩ := xg hf
      refine es_iald (v := .int (S.1 511 x4.toNatClampNeg)) dX12_insert_34 (by decide) (cel_511 _ _ _) g42 rfl ?_
      refine es_br (c := (S.1 511 x4.toNatClampNeg) = 0) (tgt := 44) (pf := 38) (st' := []) (fun _ _ a b => e_if_eq dX12_insert_35 rfl a b) (fun c43 => ?_) (fun c43 => ?_)
      · rw [if_pos c43] at hf
        exact t_X12_insert_44 N x1 x2 x3 x4 S r hf
      · rw [if_neg c43] at hf
        refine es_l (pc' := 21) (ls' := [(4, .int (x4 + 1)), (0, .ref (w.2.1 + 503)), (1, .int x1), (2, .int x2), (3, .int x3)]) (st' := []) (fun _ _ k => e_iinc (v := x4 + 1) (ls' := [(4, .int (x4 + 1)), (0, .ref (w.2.1 + 503)), (1, .int x1), (2, .int x2), (3, .int x3)]) dX12_insert_38 4 rfl rfl (by decide) rfl (e_goto (tgt := 21) dX12_insert_41 rfl k)) ?_
        refine es_sub [1, 2, 3, 4, 0] rfl ?_
        exact ih x1 x2 x3 (x4 + 1) S r hf
def f_X12_insert (N : Nat) (x1 : Int32) (S : xS) : Option xr :=
  if xin (x1 + 1) 3000 then
  if xin (x1 + 2) 3000 then
  f_X12_insert_21 N N x1 (S.1 518 ((x1 + 1).toNatClampNeg)) (S.1 518 ((x1 + 2).toNatClampNeg)) 0 S
  else none
  else none
set_option maxRecDepth 100000 in
set_option maxHeartbeats 4000000 in
theorem t_X12_insert {l : Launch} {w : xW} {g : Nat → xE} (N : Nat) (x1 : Int32) (S : xS) (r : xr) (hf : f_X12_insert N x1 S = some r) : ES l w g M_X12_insert 0 (lv_args 0 [.ref (w.2.1 + 503), .int x1]) [] S r := by
  show ES l w g M_X12_insert 0 [(0, .ref (w.2.1 + 503)), (1, .int x1)] [] S r
  unfold f_X12_insert at hf
  refine es_l (pc' := 1) (ls' := [(0, .ref (w.2.1 + 503)), (1, .int x1)]) (st' := [.ref (w.2.1 + 503)]) (fun _ _ k => e_aload_n dX12_insert_0 0 rfl k) ?_
  refine es_get (v := .ref (w.2.1 + 518)) xc_12 dX12_insert_1 fl_X12_85 (by decide) (by decide) (cel_503 _ _ _) rfl ?_
  refine es_l (pc' := 7) (ls' := [(0, .ref (w.2.1 + 503)), (1, .int x1)]) (st' := [.int (x1 + 1), .ref (w.2.1 + 518)]) (fun _ _ k => e_iload_n dX12_insert_4 1 rfl (e_iconst (v := 1) dX12_insert_5 (by decide) (e_iadd dX12_insert_6 k))) ?_
  obtain ⟨g44, hf⟩ := xg hf
  refine es_iald (v := .int (S.1 518 ((x1 + 1).toNatClampNeg))) dX12_insert_7 (by decide) (cel_518 _ _ _) g44 rfl ?_
  refine es_l (pc' := 10) (ls' := [(2, .int (S.1 518 ((x1 + 1).toNatClampNeg))), (0, .ref (w.2.1 + 503)), (1, .int x1)]) (st' := [.ref (w.2.1 + 503)]) (fun _ _ k => e_istore_n (ls' := [(2, .int (S.1 518 ((x1 + 1).toNatClampNeg))), (0, .ref (w.2.1 + 503)), (1, .int x1)]) dX12_insert_8 (by decide) rfl (e_aload_n dX12_insert_9 1 rfl k)) ?_
  refine es_get (v := .ref (w.2.1 + 518)) xc_12 dX12_insert_10 fl_X12_85 (by decide) (by decide) (cel_503 _ _ _) rfl ?_
  refine es_l (pc' := 16) (ls' := [(2, .int (S.1 518 ((x1 + 1).toNatClampNeg))), (0, .ref (w.2.1 + 503)), (1, .int x1)]) (st' := [.int (x1 + 2), .ref (w.2.1 + 518)]) (fun _ _ k => e_iload_n dX12_insert_13 2 rfl (e_iconst (v := 2) dX12_insert_14 (by decide) (e_iadd dX12_insert_15 k))) ?_
  obtain ⟨g45, hf⟩ := xg hf
  refine es_iald (v := .int (S.1 518 ((x1 + 2).toNatClampNeg))) dX12_insert_16 (by decide) (cel_518 _ _ _) g45 rfl ?_
  refine es_l (pc' := 21) (ls' := [(4, .int 0), (3, .int (S.1 518 ((x1 + 2).toNatClampNeg))), (2, .int (S.1 518 ((x1 + 1).toNatClampNeg))), (0, .ref (w.2.1 + 503)), (1, .int x1)]) (st' := []) (fun _ _ k => e_istore_n (ls' := [(3, .int (S.1 518 ((x1 + 2).toNatClampNeg))), (2, .int (S.1 518 ((x1 + 1).toNatClampNeg))), (0, .ref (w.2.1 + 503)), (1, .int x1)]) dX12_insert_17 (by decide) rfl (e_iconst (v := 0) dX12_insert_18 (by decide) (e_istore (ls' := [(4, .int 0), (3, .int (S.1 518 ((x1 + 2).toNatClampNeg))), (2, .int (S.1 518 ((x1 + 1).toNatClampNeg))), (0, .ref (w.2.1 + 503)), (1, .int x1)]) dX12_insert_19 (by decide) rfl k))) ?_
  refine es_sub [3, 4, 2, 1, 0] rfl ?_
  exact t_X12_insert_21 N N x1 (S.1 518 ((x1 + 1).toNatClampNeg)) (S.1 518 ((x1 + 2).toNatClampNeg)) 0 S r hf
def f_X12_setAll_230 (N : Nat)  : Nat → Int32 → Int32 → xS → Option xr
  | 0, _, _, _ => none
  | n + 1, x5, x6, S =>
  if 384 ≤ x6 then
    some (.inl (some (.inl x5)), S)
  else
    if xin x6 384 then
    f_X12_setAll_230 N n x5 (x6 + 1) (sI S 512 x6.toNatClampNeg (S.1 530 x6.toNatClampNeg))
    else none
set_option maxRecDepth 100000 in
set_option maxHeartbeats 4000000 in
theorem t_X12_setAll_230 {l : Launch} {w : xW} {g : Nat → xE} (N : Nat)   : ∀ (n : Nat) (x5 : Int32) (x6 : Int32) (S : xS) (r : xr), f_X12_setAll_230 N  n x5 x6 S = some r → ES l w g M_X12_setAll 230 [(0, .ref (w.2.1 + 503)), (5, .int x5), (6, .int x6)] [] S r := by
  intro n
  induction n with
  | zero => intro x5 x6 S r hf; cases hf
  | succ n ih =>
    intro x5 x6 S r hf
    rw [f_X12_setAll_230.eq_2] at hf
    refine es_l (pc' := 235) (ls' := [(0, .ref (w.2.1 + 503)), (5, .int x5), (6, .int x6)]) (st' := [.int 384, .int x6]) (fun _ _ k => e_iload dX12_setAll_230 2 rfl (e_sipush (v := 384) dX12_setAll_232 (by decide) k)) ?_
    refine es_br (c := 384 ≤ x6) (tgt := 258) (pf := 238) (st' := []) (fun _ _ a b => e_icmp_ge dX12_setAll_235 rfl a b) (fun c45 => ?_) (fun c45 => ?_)
    · rw [if_pos c45] at hf
      refine es_l (pc' := 260) (ls' := [(0, .ref (w.2.1 + 503)), (5, .int x5), (6, .int x6)]) (st' := [.int x5]) (fun _ _ k => e_iload dX12_setAll_258 1 rfl k) ?_
      exact es_ireturn (ty := .int) dX12_setAll_260 rfl rfl hf
    · rw [if_neg c45] at hf
      refine es_l (pc' := 239) (ls' := [(0, .ref (w.2.1 + 503)), (5, .int x5), (6, .int x6)]) (st' := [.ref (w.2.1 + 503)]) (fun _ _ k => e_aload_n dX12_setAll_238 0 rfl k) ?_
      refine es_get (v := .ref (w.2.1 + 512)) xc_12 dX12_setAll_239 fl_X12_48 (by decide) (by decide) (cel_503 _ _ _) rfl ?_
      refine es_l (pc' := 245) (ls' := [(0, .ref (w.2.1 + 503)), (5, .int x5), (6, .int x6)]) (st' := [.ref (w.2.1 + 503), .int x6, .ref (w.2.1 + 512)]) (fun _ _ k => e_iload dX12_setAll_242 2 rfl (e_aload_n dX12_setAll_244 0 rfl k)) ?_
      refine es_get (v := .ref (w.2.1 + 530)) xc_12 dX12_setAll_245 fl_X12_145 (by decide) (by decide) (cel_503 _ _ _) rfl ?_
      refine es_l (pc' := 250) (ls' := [(0, .ref (w.2.1 + 503)), (5, .int x5), (6, .int x6)]) (st' := [.int x6, .ref (w.2.1 + 530), .int x6, .ref (w.2.1 + 512)]) (fun _ _ k => e_iload dX12_setAll_248 2 rfl k) ?_
      obtain ⟨g46, hf⟩ := xg hf
      refine es_iald (v := .int (S.1 530 x6.toNatClampNeg)) dX12_setAll_250 (by decide) (cel_530 _ _ _) g46 rfl ?_
      refine es_iast dX12_setAll_251 (by decide) (cel_512 _) g46 ?_
      refine es_l (pc' := 230) (ls' := [(6, .int (x6 + 1)), (0, .ref (w.2.1 + 503)), (5, .int x5)]) (st' := []) (fun _ _ k => e_iinc (v := x6 + 1) (ls' := [(6, .int (x6 + 1)), (0, .ref (w.2.1 + 503)), (5, .int x5)]) dX12_setAll_252 2 rfl rfl (by decide) rfl (e_goto (tgt := 230) dX12_setAll_255 rfl k)) ?_
      refine es_sub [1, 2, 0] rfl ?_
      exact ih x5 (x6 + 1) (sI S 512 x6.toNatClampNeg (S.1 530 x6.toNatClampNeg)) r hf
def f_X12_setAll_221 (N : Nat) (k76 : Int32 → Int32 → Int32 → Int32 → Int32 → xS → Option xr) (x2 : Int32) (x3 : Int32) (x4 : Int32) (x5 : Int32) (x6 : Int32) (S : xS) : Option xr :=
  k76 x2 x3 x4 x5 (x6 + 1) S
set_option maxRecDepth 100000 in
set_option maxHeartbeats 4000000 in
theorem t_X12_setAll_221 {l : Launch} {w : xW} {g : Nat → xE} (N : Nat) (k76 : Int32 → Int32 → Int32 → Int32 → Int32 → xS → Option xr) (hk76 : ∀ (x2 : Int32) (x3 : Int32) (x4 : Int32) (x5 : Int32) (x6 : Int32) (S : xS) (r : xr), k76 x2 x3 x4 x5 x6 S = some r → ES l w g M_X12_setAll 76 [(0, .ref (w.2.1 + 503)), (2, .int x2), (3, .int x3), (4, .int x4), (5, .int x5), (6, .int x6)] [] S r) (x2 : Int32) (x3 : Int32) (x4 : Int32) (x5 : Int32) (x6 : Int32) (S : xS) (r : xr) (hf : f_X12_setAll_221 N k76 x2 x3 x4 x5 x6 S = some r) : ES l w g M_X12_setAll 221 [(0, .ref (w.2.1 + 503)), (2, .int x2), (3, .int x3), (4, .int x4), (5, .int x5), (6, .int x6)] [] S r := by
  unfold f_X12_setAll_221 at hf
  refine es_l (pc' := 76) (ls' := [(6, .int (x6 + 1)), (0, .ref (w.2.1 + 503)), (2, .int x2), (3, .int x3), (4, .int x4), (5, .int x5)]) (st' := []) (fun _ _ k => e_iinc (v := x6 + 1) (ls' := [(6, .int (x6 + 1)), (0, .ref (w.2.1 + 503)), (2, .int x2), (3, .int x3), (4, .int x4), (5, .int x5)]) dX12_setAll_221 5 rfl rfl (by decide) rfl (e_goto (tgt := 76) dX12_setAll_224 rfl k)) ?_
  refine es_sub [1, 2, 3, 4, 5, 0] rfl ?_
  exact hk76 x2 x3 x4 x5 (x6 + 1) S r hf
def f_X12_setAll_133 (N : Nat) (k76 : Int32 → Int32 → Int32 → Int32 → Int32 → xS → Option xr) : Nat → Int32 → Int32 → Int32 → Int32 → Int32 → Int32 → Int32 → xS → Option xr
  | 0, _, _, _, _, _, _, _, _ => none
  | n + 1, x2, x3, x4, x5, x6, x7, x8, S =>
  if x4 ≤ x8 then
    f_X12_setAll_221 N k76 x2 x3 x4 x5 x6 S
  else
    if xin x6 64 then
    if (S.1 531 x6.toNatClampNeg) = 0 then
      f_X12_setAll_221 N k76 x2 x3 x4 x5 x6 S
    else
      if xin x7 3000 then
      if xin (x7 + 1) 3000 then
      xcI (f_X12_eval N (x7 + 2) (S.1 518 ((x7 + 1).toNatClampNeg)) x6 S) (fun v53 S52 =>
      xcI (f_X12_cut N x2 (S.1 518 x7.toNatClampNeg) v53 S52) (fun v55 S54 =>
      if xin ((6 * x6) + (S.1 518 x7.toNatClampNeg)) 384 then
      f_X12_setAll_133 N k76 n x2 x3 x4 x5 x6 (x7 + (2 + (S54.1 518 ((x7 + 1).toNatClampNeg)))) (x8 + 1) (sI S54 530 (((6 * x6) + (S.1 518 x7.toNatClampNeg)).toNatClampNeg) v55)
      else none
      )
      )
      else none
      else none
    else none
set_option maxRecDepth 100000 in
set_option maxHeartbeats 4000000 in
theorem t_X12_setAll_133 {l : Launch} {w : xW} {g : Nat → xE} (N : Nat) (k76 : Int32 → Int32 → Int32 → Int32 → Int32 → xS → Option xr) (hk76 : ∀ (x2 : Int32) (x3 : Int32) (x4 : Int32) (x5 : Int32) (x6 : Int32) (S : xS) (r : xr), k76 x2 x3 x4 x5 x6 S = some r → ES l w g M_X12_setAll 76 [(0, .ref (w.2.1 + 503)), (2, .int x2), (3, .int x3), (4, .int x4), (5, .int x5), (6, .int x6)] [] S r) : ∀ (n : Nat) (x2 : Int32) (x3 : Int32) (x4 : Int32) (x5 : Int32) (x6 : Int32) (x7 : Int32) (x8 : Int32) (S : xS) (r : xr), f_X12_setAll_133 N k76 n x2 x3 x4 x5 x6 x7 x8 S = some r → ES l w g M_X12_setAll 133 [(0, .ref (w.2.1 + 503)), (2, .int x2), (3, .int x3), (4, .int x4), (5, .int x5), (6, .int x6), (7, .int x7), (8, .int x8)] [] S r := by
  intro n
  induction n with
  | zero => intro x2 x3 x4 x5 x6 x7 x8 S r hf; cases hf
  | succ n ih =>
    intro x2 x3 x4 x5 x6 x7 x8 S r hf
    rw [f_X12_setAll_133.eq_2] at hf
    refine es_l (pc' := 137) (ls' := [(0, .ref (w.2.1 + 503)), (2, .int x2), (3, .int x3), (4, .int x4), (5, .int x5), (6, .int x6), (7, .int x7), (8, .int x8)]) (st' := [.int x4, .int x8]) (fun _ _ k => e_iload dX12_setAll_133 7 rfl (e_iload dX12_setAll_135 3 rfl k)) ?_
    refine es_br (c := x4 ≤ x8) (tgt := 221) (pf := 140) (st' := []) (fun _ _ a b => e_icmp_ge dX12_setAll_137 rfl a b) (fun c47 => ?_) (fun c47 => ?_)
    · rw [if_pos c47] at hf
      refine es_sub [0, 1, 2, 3, 4, 5] rfl ?_
      exact t_X12_setAll_221 N k76 hk76 x2 x3 x4 x5 x6 S r hf
    · rw [if_neg c47] at hf
      refine es_l (pc' := 141) (ls' := [(0, .ref (w.2.1 + 503)), (2, .int x2), (3, .int x3), (4, .int x4), (5, .int x5), (6, .int x6), (7, .int x7), (8, .int x8)]) (st' := [.ref (w.2.1 + 503)]) (fun _ _ k => e_aload_n dX12_setAll_140 0 rfl k) ?_
      refine es_get (v := .ref (w.2.1 + 531)) xc_12 dX12_setAll_141 fl_X12_148 (by decide) (by decide) (cel_503 _ _ _) rfl ?_
      refine es_l (pc' := 146) (ls' := [(0, .ref (w.2.1 + 503)), (2, .int x2), (3, .int x3), (4, .int x4), (5, .int x5), (6, .int x6), (7, .int x7), (8, .int x8)]) (st' := [.int x6, .ref (w.2.1 + 531)]) (fun _ _ k => e_iload dX12_setAll_144 5 rfl k) ?_
      obtain ⟨g48, hf⟩ := xg hf
      refine es_zald (v := .int (S.1 531 x6.toNatClampNeg)) dX12_setAll_146 (by decide) (cel_531 _ _ _) g48 rfl ?_
      refine es_br (c := (S.1 531 x6.toNatClampNeg) = 0) (tgt := 221) (pf := 150) (st' := []) (fun _ _ a b => e_if_eq dX12_setAll_147 rfl a b) (fun c49 => ?_) (fun c49 => ?_)
      · rw [if_pos c49] at hf
        refine es_sub [0, 1, 2, 3, 4, 5] rfl ?_
        exact t_X12_setAll_221 N k76 hk76 x2 x3 x4 x5 x6 S r hf
      · rw [if_neg c49] at hf
        refine es_l (pc' := 151) (ls' := [(0, .ref (w.2.1 + 503)), (2, .int x2), (3, .int x3), (4, .int x4), (5, .int x5), (6, .int x6), (7, .int x7), (8, .int x8)]) (st' := [.ref (w.2.1 + 503)]) (fun _ _ k => e_aload_n dX12_setAll_150 0 rfl k) ?_
        refine es_get (v := .ref (w.2.1 + 530)) xc_12 dX12_setAll_151 fl_X12_145 (by decide) (by decide) (cel_503 _ _ _) rfl ?_
        refine es_l (pc' := 160) (ls' := [(0, .ref (w.2.1 + 503)), (2, .int x2), (3, .int x3), (4, .int x4), (5, .int x5), (6, .int x6), (7, .int x7), (8, .int x8)]) (st' := [.ref (w.2.1 + 503), .int (6 * x6), .ref (w.2.1 + 530)]) (fun _ _ k => e_bipush (v := 6) dX12_setAll_154 (by decide) (e_iload dX12_setAll_156 5 rfl (e_imul dX12_setAll_158 (e_aload_n dX12_setAll_159 0 rfl k)))) ?_
        refine es_get (v := .ref (w.2.1 + 518)) xc_12 dX12_setAll_160 fl_X12_85 (by decide) (by decide) (cel_503 _ _ _) rfl ?_
        refine es_l (pc' := 165) (ls' := [(0, .ref (w.2.1 + 503)), (2, .int x2), (3, .int x3), (4, .int x4), (5, .int x5), (6, .int x6), (7, .int x7), (8, .int x8)]) (st' := [.int x7, .ref (w.2.1 + 518), .int (6 * x6), .ref (w.2.1 + 530)]) (fun _ _ k => e_iload dX12_setAll_163 6 rfl k) ?_
        obtain ⟨g50, hf⟩ := xg hf
        refine es_iald (v := .int (S.1 518 x7.toNatClampNeg)) dX12_setAll_165 (by decide) (cel_518 _ _ _) g50 rfl ?_
        refine es_l (pc' := 170) (ls' := [(0, .ref (w.2.1 + 503)), (2, .int x2), (3, .int x3), (4, .int x4), (5, .int x5), (6, .int x6), (7, .int x7), (8, .int x8)]) (st' := [.ref (w.2.1 + 503), .int x2, .ref (w.2.1 + 503), .int ((6 * x6) + (S.1 518 x7.toNatClampNeg)), .ref (w.2.1 + 530)]) (fun _ _ k => e_iadd dX12_setAll_166 (e_aload_n dX12_setAll_167 0 rfl (e_iload_n dX12_setAll_168 1 rfl (e_aload_n dX12_setAll_169 0 rfl k)))) ?_
        refine es_get (v := .ref (w.2.1 + 518)) xc_12 dX12_setAll_170 fl_X12_85 (by decide) (by decide) (cel_503 _ _ _) rfl ?_
        refine es_l (pc' := 175) (ls' := [(0, .ref (w.2.1 + 503)), (2, .int x2), (3, .int x3), (4, .int x4), (5, .int x5), (6, .int x6), (7, .int x7), (8, .int x8)]) (st' := [.int x7, .ref (w.2.1 + 518), .int x2, .ref (w.2.1 + 503), .int ((6 * x6) + (S.1 518 x7.toNatClampNeg)), .ref (w.2.1 + 530)]) (fun _ _ k => e_iload dX12_setAll_173 6 rfl k) ?_
        refine es_iald (v := .int (S.1 518 x7.toNatClampNeg)) dX12_setAll_175 (by decide) (cel_518 _ _ _) g50 rfl ?_
        refine es_l (pc' := 182) (ls' := [(0, .ref (w.2.1 + 503)), (2, .int x2), (3, .int x3), (4, .int x4), (5, .int x5), (6, .int x6), (7, .int x7), (8, .int x8)]) (st' := [.ref (w.2.1 + 503), .int (x7 + 2), .ref (w.2.1 + 503), .int (S.1 518 x7.toNatClampNeg), .int x2, .ref (w.2.1 + 503), .int ((6 * x6) + (S.1 518 x7.toNatClampNeg)), .ref (w.2.1 + 530)]) (fun _ _ k => e_aload_n dX12_setAll_176 0 rfl (e_iload dX12_setAll_177 6 rfl (e_iconst (v := 2) dX12_setAll_179 (by decide) (e_iadd dX12_setAll_180 (e_aload_n dX12_setAll_181 0 rfl k))))) ?_
        refine es_get (v := .ref (w.2.1 + 518)) xc_12 dX12_setAll_182 fl_X12_85 (by decide) (by decide) (cel_503 _ _ _) rfl ?_
        refine es_l (pc' := 189) (ls' := [(0, .ref (w.2.1 + 503)), (2, .int x2), (3, .int x3), (4, .int x4), (5, .int x5), (6, .int x6), (7, .int x7), (8, .int x8)]) (st' := [.int (x7 + 1), .ref (w.2.1 + 518), .int (x7 + 2), .ref (w.2.1 + 503), .int (S.1 518 x7.toNatClampNeg), .int x2, .ref (w.2.1 + 503), .int ((6 * x6) + (S.1 518 x7.toNatClampNeg)), .ref (w.2.1 + 530)]) (fun _ _ k => e_iload dX12_setAll_185 6 rfl (e_iconst (v := 1) dX12_setAll_187 (by decide) (e_iadd dX12_setAll_188 k))) ?_
        obtain ⟨g51, hf⟩ := xg hf
        refine es_iald (v := .int (S.1 518 ((x7 + 1).toNatClampNeg))) dX12_setAll_189 (by decide) (cel_518 _ _ _) g51 rfl ?_
        refine es_l (pc' := 192) (ls' := [(0, .ref (w.2.1 + 503)), (2, .int x2), (3, .int x3), (4, .int x4), (5, .int x5), (6, .int x6), (7, .int x7), (8, .int x8)]) (st' := [.int x6, .int (S.1 518 ((x7 + 1).toNatClampNeg)), .int (x7 + 2), .ref (w.2.1 + 503), .int (S.1 518 x7.toNatClampNeg), .int x2, .ref (w.2.1 + 503), .int ((6 * x6) + (S.1 518 x7.toNatClampNeg)), .ref (w.2.1 + 530)]) (fun _ _ k => e_iload dX12_setAll_190 5 rfl k) ?_
        refine es_callVI (as := [.int (x7 + 2), .int (S.1 518 ((x7 + 1).toNatClampNeg)), .int x6]) (rest := [.int (S.1 518 x7.toNatClampNeg), .int x2, .ref (w.2.1 + 503), .int ((6 * x6) + (S.1 518 x7.toNatClampNeg)), .ref (w.2.1 + 530)]) hf xc_12 dX12_setAll_192 cs_X12_setAll_X12_eval ml_X12_387 im_X12_eval se_X12_eval rfl rfl (Nat.le_of_ble_eq_true rfl) (Nat.le_of_ble_eq_true rfl) (by decide) rfl (cel_503 _ _ _) (fun _ e => t_X12_eval N (x7 + 2) (S.1 518 ((x7 + 1).toNatClampNeg)) x6 S _ e) (by decide) (fun v53 S52 hf => ?_)
        refine es_callVI (as := [.int x2, .int (S.1 518 x7.toNatClampNeg), .int v53]) (rest := [.int ((6 * x6) + (S.1 518 x7.toNatClampNeg)), .ref (w.2.1 + 530)]) hf xc_12 dX12_setAll_195 cs_X12_setAll_X12_cut ml_X12_390 im_X12_cut se_X12_cut rfl rfl (Nat.le_of_ble_eq_true rfl) (Nat.le_of_ble_eq_true rfl) (by decide) rfl (cel_503 _ _ _) (fun _ e => t_X12_cut N x2 (S.1 518 x7.toNatClampNeg) v53 S52 _ e) (by decide) (fun v55 S54 hf => ?_)
        obtain ⟨g56, hf⟩ := xg hf
        refine es_iast dX12_setAll_198 (by decide) (cel_530 _) g56 ?_
        refine es_l (pc' := 203) (ls' := [(0, .ref (w.2.1 + 503)), (2, .int x2), (3, .int x3), (4, .int x4), (5, .int x5), (6, .int x6), (7, .int x7), (8, .int x8)]) (st' := [.ref (w.2.1 + 503), .int 2, .int x7]) (fun _ _ k => e_iload dX12_setAll_199 6 rfl (e_iconst (v := 2) dX12_setAll_201 (by decide) (e_aload_n dX12_setAll_202 0 rfl k))) ?_
        refine es_get (v := .ref (w.2.1 + 518)) xc_12 dX12_setAll_203 fl_X12_85 (by decide) (by decide) (cel_503 _ _ _) rfl ?_
        refine es_l (pc' := 210) (ls' := [(0, .ref (w.2.1 + 503)), (2, .int x2), (3, .int x3), (4, .int x4), (5, .int x5), (6, .int x6), (7, .int x7), (8, .int x8)]) (st' := [.int (x7 + 1), .ref (w.2.1 + 518), .int 2, .int x7]) (fun _ _ k => e_iload dX12_setAll_206 6 rfl (e_iconst (v := 1) dX12_setAll_208 (by decide) (e_iadd dX12_setAll_209 k))) ?_
        refine es_iald (v := .int (S54.1 518 ((x7 + 1).toNatClampNeg))) dX12_setAll_210 (by decide) (cel_518 _ _ _) g51 rfl ?_
        refine es_l (pc' := 133) (ls' := [(8, .int (x8 + 1)), (7, .int (x7 + (2 + (S54.1 518 ((x7 + 1).toNatClampNeg))))), (0, .ref (w.2.1 + 503)), (2, .int x2), (3, .int x3), (4, .int x4), (5, .int x5), (6, .int x6)]) (st' := []) (fun _ _ k => e_iadd dX12_setAll_211 (e_iadd dX12_setAll_212 (e_istore (ls' := [(7, .int (x7 + (2 + (S54.1 518 ((x7 + 1).toNatClampNeg))))), (0, .ref (w.2.1 + 503)), (2, .int x2), (3, .int x3), (4, .int x4), (5, .int x5), (6, .int x6), (8, .int x8)]) dX12_setAll_213 (by decide) rfl (e_iinc (v := x8 + 1) (ls' := [(8, .int (x8 + 1)), (7, .int (x7 + (2 + (S54.1 518 ((x7 + 1).toNatClampNeg))))), (0, .ref (w.2.1 + 503)), (2, .int x2), (3, .int x3), (4, .int x4), (5, .int x5), (6, .int x6)]) dX12_setAll_215 7 rfl rfl (by decide) rfl (e_goto (tgt := 133) dX12_setAll_218 rfl k))))) ?_
        refine es_sub [2, 3, 4, 5, 6, 7, 1, 0] rfl ?_
        exact ih x2 x3 x4 x5 x6 (x7 + (2 + (S54.1 518 ((x7 + 1).toNatClampNeg)))) (x8 + 1) (sI S54 530 (((6 * x6) + (S.1 518 x7.toNatClampNeg)).toNatClampNeg) v55) r hf
def f_X12_setAll_91 (N : Nat) (k76 : Int32 → Int32 → Int32 → Int32 → Int32 → xS → Option xr) : Nat → Int32 → Int32 → Int32 → Int32 → Int32 → Int32 → Int32 → xS → Option xr
  | 0, _, _, _, _, _, _, _, _ => none
  | n + 1, x2, x3, x4, x5, x6, x7, x8, S =>
  if 6 ≤ x8 then
    f_X12_setAll_133 N k76 N x2 x3 x4 x5 x6 x7 0 S
  else
    if xin ((6 * x6) + x8) 384 then
    f_X12_setAll_91 N k76 n x2 x3 x4 x5 x6 x7 (x8 + 1) (sI S 530 (((6 * x6) + x8).toNatClampNeg) (S.1 512 (((6 * x6) + x8).toNatClampNeg)))
    else none
set_option maxRecDepth 100000 in
set_option maxHeartbeats 4000000 in
theorem t_X12_setAll_91 {l : Launch} {w : xW} {g : Nat → xE} (N : Nat) (k76 : Int32 → Int32 → Int32 → Int32 → Int32 → xS → Option xr) (hk76 : ∀ (x2 : Int32) (x3 : Int32) (x4 : Int32) (x5 : Int32) (x6 : Int32) (S : xS) (r : xr), k76 x2 x3 x4 x5 x6 S = some r → ES l w g M_X12_setAll 76 [(0, .ref (w.2.1 + 503)), (2, .int x2), (3, .int x3), (4, .int x4), (5, .int x5), (6, .int x6)] [] S r) : ∀ (n : Nat) (x2 : Int32) (x3 : Int32) (x4 : Int32) (x5 : Int32) (x6 : Int32) (x7 : Int32) (x8 : Int32) (S : xS) (r : xr), f_X12_setAll_91 N k76 n x2 x3 x4 x5 x6 x7 x8 S = some r → ES l w g M_X12_setAll 91 [(0, .ref (w.2.1 + 503)), (2, .int x2), (3, .int x3), (4, .int x4), (5, .int x5), (6, .int x6), (7, .int x7), (8, .int x8)] [] S r := by
  intro n
  induction n with
  | zero => intro x2 x3 x4 x5 x6 x7 x8 S r hf; cases hf
  | succ n ih =>
    intro x2 x3 x4 x5 x6 x7 x8 S r hf
    rw [f_X12_setAll_91.eq_2] at hf
    refine es_l (pc' := 95) (ls' := [(0, .ref (w.2.1 + 503)), (2, .int x2), (3, .int x3), (4, .int x4), (5, .int x5), (6, .int x6), (7, .int x7), (8, .int x8)]) (st' := [.int 6, .int x8]) (fun _ _ k => e_iload dX12_setAll_91 7 rfl (e_bipush (v := 6) dX12_setAll_93 (by decide) k)) ?_
    refine es_br (c := 6 ≤ x8) (tgt := 130) (pf := 98) (st' := []) (fun _ _ a b => e_icmp_ge dX12_setAll_95 rfl a b) (fun c57 => ?_) (fun c57 => ?_)
    · rw [if_pos c57] at hf
      refine es_l (pc' := 133) (ls' := [(8, .int 0), (0, .ref (w.2.1 + 503)), (2, .int x2), (3, .int x3), (4, .int x4), (5, .int x5), (6, .int x6), (7, .int x7)]) (st' := []) (fun _ _ k => e_iconst (v := 0) dX12_setAll_130 (by decide) (e_istore (ls' := [(8, .int 0), (0, .ref (w.2.1 + 503)), (2, .int x2), (3, .int x3), (4, .int x4), (5, .int x5), (6, .int x6), (7, .int x7)]) dX12_setAll_131 (by decide) rfl k)) ?_
      refine es_sub [1, 2, 3, 4, 5, 6, 7, 0] rfl ?_
      exact t_X12_setAll_133 N k76 hk76 N x2 x3 x4 x5 x6 x7 0 S r hf
    · rw [if_neg c57] at hf
      refine es_l (pc' := 99) (ls' := [(0, .ref (w.2.1 + 503)), (2, .int x2), (3, .int x3), (4, .int x4), (5, .int x5), (6, .int x6), (7, .int x7), (8, .int x8)]) (st' := [.ref (w.2.1 + 503)]) (fun _ _ k => e_aload_n dX12_setAll_98 0 rfl k) ?_
      refine es_get (v := .ref (w.2.1 + 530)) xc_12 dX12_setAll_99 fl_X12_145 (by decide) (by decide) (cel_503 _ _ _) rfl ?_
      refine es_l (pc' := 111) (ls' := [(0, .ref (w.2.1 + 503)), (2, .int x2), (3, .int x3), (4, .int x4), (5, .int x5), (6, .int x6), (7, .int x7), (8, .int x8)]) (st' := [.ref (w.2.1 + 503), .int ((6 * x6) + x8), .ref (w.2.1 + 530)]) (fun _ _ k => e_bipush (v := 6) dX12_setAll_102 (by decide) (e_iload dX12_setAll_104 5 rfl (e_imul dX12_setAll_106 (e_iload dX12_setAll_107 7 rfl (e_iadd dX12_setAll_109 (e_aload_n dX12_setAll_110 0 rfl k)))))) ?_
      refine es_get (v := .ref (w.2.1 + 512)) xc_12 dX12_setAll_111 fl_X12_48 (by decide) (by decide) (cel_503 _ _ _) rfl ?_
      refine es_l (pc' := 122) (ls' := [(0, .ref (w.2.1 + 503)), (2, .int x2), (3, .int x3), (4, .int x4), (5, .int x5), (6, .int x6), (7, .int x7), (8, .int x8)]) (st' := [.int ((6 * x6) + x8), .ref (w.2.1 + 512), .int ((6 * x6) + x8), .ref (w.2.1 + 530)]) (fun _ _ k => e_bipush (v := 6) dX12_setAll_114 (by decide) (e_iload dX12_setAll_116 5 rfl (e_imul dX12_setAll_118 (e_iload dX12_setAll_119 7 rfl (e_iadd dX12_setAll_121 k))))) ?_
      obtain ⟨g58, hf⟩ := xg hf
      refine es_iald (v := .int (S.1 512 (((6 * x6) + x8).toNatClampNeg))) dX12_setAll_122 (by decide) (cel_512 _ _ _) g58 rfl ?_
      refine es_iast dX12_setAll_123 (by decide) (cel_530 _) g58 ?_
      refine es_l (pc' := 91) (ls' := [(8, .int (x8 + 1)), (0, .ref (w.2.1 + 503)), (2, .int x2), (3, .int x3), (4, .int x4), (5, .int x5), (6, .int x6), (7, .int x7)]) (st' := []) (fun _ _ k => e_iinc (v := x8 + 1) (ls' := [(8, .int (x8 + 1)), (0, .ref (w.2.1 + 503)), (2, .int x2), (3, .int x3), (4, .int x4), (5, .int x5), (6, .int x6), (7, .int x7)]) dX12_setAll_124 7 rfl rfl (by decide) rfl (e_goto (tgt := 91) dX12_setAll_127 rfl k)) ?_
      refine es_sub [1, 2, 3, 4, 5, 6, 7, 0] rfl ?_
      exact ih x2 x3 x4 x5 x6 x7 (x8 + 1) (sI S 530 (((6 * x6) + x8).toNatClampNeg) (S.1 512 (((6 * x6) + x8).toNatClampNeg))) r hf
def f_X12_setAll_76 (N : Nat)  : Nat → Int32 → Int32 → Int32 → Int32 → Int32 → xS → Option xr
  | 0, _, _, _, _, _, _ => none
  | n + 1, x2, x3, x4, x5, x6, S =>
  if 64 ≤ x6 then
    f_X12_setAll_230 N N x5 0 S
  else
    f_X12_setAll_91 N (f_X12_setAll_76 N n) N x2 x3 x4 x5 x6 (x3 + 1) 0 S
set_option maxRecDepth 100000 in
set_option maxHeartbeats 4000000 in
theorem t_X12_setAll_76 {l : Launch} {w : xW} {g : Nat → xE} (N : Nat)   : ∀ (n : Nat) (x2 : Int32) (x3 : Int32) (x4 : Int32) (x5 : Int32) (x6 : Int32) (S : xS) (r : xr), f_X12_setAll_76 N  n x2 x3 x4 x5 x6 S = some r → ES l w g M_X12_setAll 76 [(0, .ref (w.2.1 + 503)), (2, .int x2), (3, .int x3), (4, .int x4), (5, .int x5), (6, .int x6)] [] S r := by
  intro n
  induction n with
  | zero => intro x2 x3 x4 x5 x6 S r hf; cases hf
  | succ n ih =>
    intro x2 x3 x4 x5 x6 S r hf
    rw [f_X12_setAll_76.eq_2] at hf
    refine es_l (pc' := 80) (ls' := [(0, .ref (w.2.1 + 503)), (2, .int x2), (3, .int x3), (4, .int x4), (5, .int x5), (6, .int x6)]) (st' := [.int 64, .int x6]) (fun _ _ k => e_iload dX12_setAll_76 5 rfl (e_bipush (v := 64) dX12_setAll_78 (by decide) k)) ?_
    refine es_br (c := 64 ≤ x6) (tgt := 227) (pf := 83) (st' := []) (fun _ _ a b => e_icmp_ge dX12_setAll_80 rfl a b) (fun c59 => ?_) (fun c59 => ?_)
    · rw [if_pos c59] at hf
      refine es_l (pc' := 230) (ls' := [(6, .int 0), (0, .ref (w.2.1 + 503)), (2, .int x2), (3, .int x3), (4, .int x4), (5, .int x5)]) (st' := []) (fun _ _ k => e_iconst (v := 0) dX12_setAll_227 (by decide) (e_istore (ls' := [(6, .int 0), (0, .ref (w.2.1 + 503)), (2, .int x2), (3, .int x3), (4, .int x4), (5, .int x5)]) dX12_setAll_228 (by decide) rfl k)) ?_
      refine es_sub [1, 5, 0] rfl ?_
      exact t_X12_setAll_230 N N x5 0 S r hf
    · rw [if_neg c59] at hf
      refine es_l (pc' := 91) (ls' := [(8, .int 0), (7, .int (x3 + 1)), (0, .ref (w.2.1 + 503)), (2, .int x2), (3, .int x3), (4, .int x4), (5, .int x5), (6, .int x6)]) (st' := []) (fun _ _ k => e_iload_n dX12_setAll_83 2 rfl (e_iconst (v := 1) dX12_setAll_84 (by decide) (e_iadd dX12_setAll_85 (e_istore (ls' := [(7, .int (x3 + 1)), (0, .ref (w.2.1 + 503)), (2, .int x2), (3, .int x3), (4, .int x4), (5, .int x5), (6, .int x6)]) dX12_setAll_86 (by decide) rfl (e_iconst (v := 0) dX12_setAll_88 (by decide) (e_istore (ls' := [(8, .int 0), (7, .int (x3 + 1)), (0, .ref (w.2.1 + 503)), (2, .int x2), (3, .int x3), (4, .int x4), (5, .int x5), (6, .int x6)]) dX12_setAll_89 (by decide) rfl k)))))) ?_
      refine es_sub [2, 3, 4, 5, 6, 7, 1, 0] rfl ?_
      exact t_X12_setAll_91 N (f_X12_setAll_76 N n) ih N x2 x3 x4 x5 x6 (x3 + 1) 0 S r hf
def f_X12_setAll_44 (N : Nat)  : Nat → Int32 → Int32 → Int32 → Int32 → Int32 → xS → Option xr
  | 0, _, _, _, _, _, _ => none
  | n + 1, x2, x3, x4, x5, x6, S =>
  if x4 ≤ x6 then
    f_X12_setAll_76 N N x2 x3 x4 x5 0 S
  else
    if xin (x5 + 1) 3000 then
    f_X12_setAll_44 N n x2 x3 x4 (x5 + (2 + (S.1 518 ((x5 + 1).toNatClampNeg)))) (x6 + 1) S
    else none
set_option maxRecDepth 100000 in
set_option maxHeartbeats 4000000 in
theorem t_X12_setAll_44 {l : Launch} {w : xW} {g : Nat → xE} (N : Nat)   : ∀ (n : Nat) (x2 : Int32) (x3 : Int32) (x4 : Int32) (x5 : Int32) (x6 : Int32) (S : xS) (r : xr), f_X12_setAll_44 N  n x2 x3 x4 x5 x6 S = some r → ES l w g M_X12_setAll 44 [(0, .ref (w.2.1 + 503)), (2, .int x2), (3, .int x3), (4, .int x4), (5, .int x5), (6, .int x6)] [] S r := by
  intro n
  induction n with
  | zero => intro x2 x3 x4 x5 x6 S r hf; cases hf
  | succ n ih =>
    intro x2 x3 x4 x5 x6 S r hf
    rw [f_X12_setAll_44.eq_2] at hf
    refine es_l (pc' := 48) (ls' := [(0, .ref (w.2.1 + 503)), (2, .int x2), (3, .int x3), (4, .int x4), (5, .int x5), (6, .int x6)]) (st' := [.int x4, .int x6]) (fun _ _ k => e_iload dX12_setAll_44 5 rfl (e_iload dX12_setAll_46 3 rfl k)) ?_
    refine es_br (c := x4 ≤ x6) (tgt := 73) (pf := 51) (st' := []) (fun _ _ a b => e_icmp_ge dX12_setAll_48 rfl a b) (fun c60 => ?_) (fun c60 => ?_)
    · rw [if_pos c60] at hf
      refine es_l (pc' := 76) (ls' := [(6, .int 0), (0, .ref (w.2.1 + 503)), (2, .int x2), (3, .int x3), (4, .int x4), (5, .int x5)]) (st' := []) (fun _ _ k => e_iconst (v := 0) dX12_setAll_73 (by decide) (e_istore (ls' := [(6, .int 0), (0, .ref (w.2.1 + 503)), (2, .int x2), (3, .int x3), (4, .int x4), (5, .int x5)]) dX12_setAll_74 (by decide) rfl k)) ?_
      refine es_sub [1, 2, 3, 4, 5, 0] rfl ?_
      exact t_X12_setAll_76 N N x2 x3 x4 x5 0 S r hf
    · rw [if_neg c60] at hf
      refine es_l (pc' := 55) (ls' := [(0, .ref (w.2.1 + 503)), (2, .int x2), (3, .int x3), (4, .int x4), (5, .int x5), (6, .int x6)]) (st' := [.ref (w.2.1 + 503), .int 2, .int x5]) (fun _ _ k => e_iload dX12_setAll_51 4 rfl (e_iconst (v := 2) dX12_setAll_53 (by decide) (e_aload_n dX12_setAll_54 0 rfl k))) ?_
      refine es_get (v := .ref (w.2.1 + 518)) xc_12 dX12_setAll_55 fl_X12_85 (by decide) (by decide) (cel_503 _ _ _) rfl ?_
      refine es_l (pc' := 62) (ls' := [(0, .ref (w.2.1 + 503)), (2, .int x2), (3, .int x3), (4, .int x4), (5, .int x5), (6, .int x6)]) (st' := [.int (x5 + 1), .ref (w.2.1 + 518), .int 2, .int x5]) (fun _ _ k => e_iload dX12_setAll_58 4 rfl (e_iconst (v := 1) dX12_setAll_60 (by decide) (e_iadd dX12_setAll_61 k))) ?_
      obtain ⟨g61, hf⟩ := xg hf
      refine es_iald (v := .int (S.1 518 ((x5 + 1).toNatClampNeg))) dX12_setAll_62 (by decide) (cel_518 _ _ _) g61 rfl ?_
      refine es_l (pc' := 44) (ls' := [(6, .int (x6 + 1)), (5, .int (x5 + (2 + (S.1 518 ((x5 + 1).toNatClampNeg))))), (0, .ref (w.2.1 + 503)), (2, .int x2), (3, .int x3), (4, .int x4)]) (st' := []) (fun _ _ k => e_iadd dX12_setAll_63 (e_iadd dX12_setAll_64 (e_istore (ls' := [(5, .int (x5 + (2 + (S.1 518 ((x5 + 1).toNatClampNeg))))), (0, .ref (w.2.1 + 503)), (2, .int x2), (3, .int x3), (4, .int x4), (6, .int x6)]) dX12_setAll_65 (by decide) rfl (e_iinc (v := x6 + 1) (ls' := [(6, .int (x6 + 1)), (5, .int (x5 + (2 + (S.1 518 ((x5 + 1).toNatClampNeg))))), (0, .ref (w.2.1 + 503)), (2, .int x2), (3, .int x3), (4, .int x4)]) dX12_setAll_67 5 rfl rfl (by decide) rfl (e_goto (tgt := 44) dX12_setAll_70 rfl k))))) ?_
      refine es_sub [2, 3, 4, 5, 1, 0] rfl ?_
      exact ih x2 x3 x4 (x5 + (2 + (S.1 518 ((x5 + 1).toNatClampNeg)))) (x6 + 1) S r hf
def f_X12_setAll (N : Nat) (x1 : Int32) (S : xS) : Option xr :=
  if xin x1 3000 then
  xcV (f_X12_choose N (S.1 518 x1.toNatClampNeg) (x1 + 1) S) (fun S63 =>
  if xin (x1 + 1) 3000 then
  if xin ((x1 + 2) + (S63.1 518 ((x1 + 1).toNatClampNeg))) 3000 then
  f_X12_setAll_44 N N (S.1 518 x1.toNatClampNeg) ((x1 + 2) + (S63.1 518 ((x1 + 1).toNatClampNeg))) (S63.1 518 (((x1 + 2) + (S63.1 518 ((x1 + 1).toNatClampNeg))).toNatClampNeg)) (((x1 + 2) + (S63.1 518 ((x1 + 1).toNatClampNeg))) + 1) 0 S63
  else none
  else none
  )
  else none
set_option maxRecDepth 100000 in
set_option maxHeartbeats 4000000 in
theorem t_X12_setAll {l : Launch} {w : xW} {g : Nat → xE} (N : Nat) (x1 : Int32) (S : xS) (r : xr) (hf : f_X12_setAll N x1 S = some r) : ES l w g M_X12_setAll 0 (lv_args 0 [.ref (w.2.1 + 503), .int x1]) [] S r := by
  show ES l w g M_X12_setAll 0 [(0, .ref (w.2.1 + 503)), (1, .int x1)] [] S r
  unfold f_X12_setAll at hf
  refine es_l (pc' := 1) (ls' := [(0, .ref (w.2.1 + 503)), (1, .int x1)]) (st' := [.ref (w.2.1 + 503)]) (fun _ _ k => e_aload_n dX12_setAll_0 0 rfl k) ?_
  refine es_get (v := .ref (w.2.1 + 518)) xc_12 dX12_setAll_1 fl_X12_85 (by decide) (by decide) (cel_503 _ _ _) rfl ?_
  refine es_l (pc' := 5) (ls' := [(0, .ref (w.2.1 + 503)), (1, .int x1)]) (st' := [.int x1, .ref (w.2.1 + 518)]) (fun _ _ k => e_iload_n dX12_setAll_4 1 rfl k) ?_
  obtain ⟨g62, hf⟩ := xg hf
  refine es_iald (v := .int (S.1 518 x1.toNatClampNeg)) dX12_setAll_5 (by decide) (cel_518 _ _ _) g62 rfl ?_
  refine es_l (pc' := 12) (ls' := [(2, .int (S.1 518 x1.toNatClampNeg)), (0, .ref (w.2.1 + 503)), (1, .int x1)]) (st' := [.int (x1 + 1), .int (S.1 518 x1.toNatClampNeg), .ref (w.2.1 + 503)]) (fun _ _ k => e_istore_n (ls' := [(2, .int (S.1 518 x1.toNatClampNeg)), (0, .ref (w.2.1 + 503)), (1, .int x1)]) dX12_setAll_6 (by decide) rfl (e_aload_n dX12_setAll_7 1 rfl (e_iload_n dX12_setAll_8 0 rfl (e_iload_n dX12_setAll_9 2 rfl (e_iconst (v := 1) dX12_setAll_10 (by decide) (e_iadd dX12_setAll_11 k)))))) ?_
  refine es_callVV (as := [.int (S.1 518 x1.toNatClampNeg), .int (x1 + 1)]) (rest := []) hf xc_12 dX12_setAll_12 cs_X12_setAll_X12_choose ml_X12_393 im_X12_choose se_X12_choose rfl rfl (Nat.le_of_ble_eq_true rfl) (Nat.le_of_ble_eq_true rfl) (by decide) rfl (cel_503 _ _ _) (fun _ e => t_X12_choose N (S.1 518 x1.toNatClampNeg) (x1 + 1) S _ e) (by decide) (fun S63 hf => ?_)
  refine es_l (pc' := 19) (ls' := [(2, .int (S.1 518 x1.toNatClampNeg)), (0, .ref (w.2.1 + 503)), (1, .int x1)]) (st' := [.ref (w.2.1 + 503), .int (x1 + 2)]) (fun _ _ k => e_iload_n dX12_setAll_15 2 rfl (e_iconst (v := 2) dX12_setAll_16 (by decide) (e_iadd dX12_setAll_17 (e_aload_n dX12_setAll_18 1 rfl k)))) ?_
  refine es_get (v := .ref (w.2.1 + 518)) xc_12 dX12_setAll_19 fl_X12_85 (by decide) (by decide) (cel_503 _ _ _) rfl ?_
  refine es_l (pc' := 25) (ls' := [(2, .int (S.1 518 x1.toNatClampNeg)), (0, .ref (w.2.1 + 503)), (1, .int x1)]) (st' := [.int (x1 + 1), .ref (w.2.1 + 518), .int (x1 + 2)]) (fun _ _ k => e_iload_n dX12_setAll_22 2 rfl (e_iconst (v := 1) dX12_setAll_23 (by decide) (e_iadd dX12_setAll_24 k))) ?_
  obtain ⟨g65, hf⟩ := xg hf
  refine es_iald (v := .int (S63.1 518 ((x1 + 1).toNatClampNeg))) dX12_setAll_25 (by decide) (cel_518 _ _ _) g65 rfl ?_
  refine es_l (pc' := 29) (ls' := [(3, .int ((x1 + 2) + (S63.1 518 ((x1 + 1).toNatClampNeg)))), (2, .int (S.1 518 x1.toNatClampNeg)), (0, .ref (w.2.1 + 503)), (1, .int x1)]) (st' := [.ref (w.2.1 + 503)]) (fun _ _ k => e_iadd dX12_setAll_26 (e_istore_n (ls' := [(3, .int ((x1 + 2) + (S63.1 518 ((x1 + 1).toNatClampNeg)))), (2, .int (S.1 518 x1.toNatClampNeg)), (0, .ref (w.2.1 + 503)), (1, .int x1)]) dX12_setAll_27 (by decide) rfl (e_aload_n dX12_setAll_28 2 rfl k))) ?_
  refine es_get (v := .ref (w.2.1 + 518)) xc_12 dX12_setAll_29 fl_X12_85 (by decide) (by decide) (cel_503 _ _ _) rfl ?_
  refine es_l (pc' := 33) (ls' := [(3, .int ((x1 + 2) + (S63.1 518 ((x1 + 1).toNatClampNeg)))), (2, .int (S.1 518 x1.toNatClampNeg)), (0, .ref (w.2.1 + 503)), (1, .int x1)]) (st' := [.int ((x1 + 2) + (S63.1 518 ((x1 + 1).toNatClampNeg))), .ref (w.2.1 + 518)]) (fun _ _ k => e_iload_n dX12_setAll_32 0 rfl k) ?_
  obtain ⟨g66, hf⟩ := xg hf
  refine es_iald (v := .int (S63.1 518 (((x1 + 2) + (S63.1 518 ((x1 + 1).toNatClampNeg))).toNatClampNeg))) dX12_setAll_33 (by decide) (cel_518 _ _ _) g66 rfl ?_
  refine es_l (pc' := 44) (ls' := [(6, .int 0), (5, .int (((x1 + 2) + (S63.1 518 ((x1 + 1).toNatClampNeg))) + 1)), (4, .int (S63.1 518 (((x1 + 2) + (S63.1 518 ((x1 + 1).toNatClampNeg))).toNatClampNeg))), (3, .int ((x1 + 2) + (S63.1 518 ((x1 + 1).toNatClampNeg)))), (2, .int (S.1 518 x1.toNatClampNeg)), (0, .ref (w.2.1 + 503)), (1, .int x1)]) (st' := []) (fun _ _ k => e_istore (ls' := [(4, .int (S63.1 518 (((x1 + 2) + (S63.1 518 ((x1 + 1).toNatClampNeg))).toNatClampNeg))), (3, .int ((x1 + 2) + (S63.1 518 ((x1 + 1).toNatClampNeg)))), (2, .int (S.1 518 x1.toNatClampNeg)), (0, .ref (w.2.1 + 503)), (1, .int x1)]) dX12_setAll_34 (by decide) rfl (e_iload_n dX12_setAll_36 1 rfl (e_iconst (v := 1) dX12_setAll_37 (by decide) (e_iadd dX12_setAll_38 (e_istore (ls' := [(5, .int (((x1 + 2) + (S63.1 518 ((x1 + 1).toNatClampNeg))) + 1)), (4, .int (S63.1 518 (((x1 + 2) + (S63.1 518 ((x1 + 1).toNatClampNeg))).toNatClampNeg))), (3, .int ((x1 + 2) + (S63.1 518 ((x1 + 1).toNatClampNeg)))), (2, .int (S.1 518 x1.toNatClampNeg)), (0, .ref (w.2.1 + 503)), (1, .int x1)]) dX12_setAll_39 (by decide) rfl (e_iconst (v := 0) dX12_setAll_41 (by decide) (e_istore (ls' := [(6, .int 0), (5, .int (((x1 + 2) + (S63.1 518 ((x1 + 1).toNatClampNeg))) + 1)), (4, .int (S63.1 518 (((x1 + 2) + (S63.1 518 ((x1 + 1).toNatClampNeg))).toNatClampNeg))), (3, .int ((x1 + 2) + (S63.1 518 ((x1 + 1).toNatClampNeg)))), (2, .int (S.1 518 x1.toNatClampNeg)), (0, .ref (w.2.1 + 503)), (1, .int x1)]) dX12_setAll_42 (by decide) rfl k))))))) ?_
  refine es_sub [5, 4, 3, 2, 1, 0] rfl ?_
  exact t_X12_setAll_44 N N (S.1 518 x1.toNatClampNeg) ((x1 + 2) + (S63.1 518 ((x1 + 1).toNatClampNeg))) (S63.1 518 (((x1 + 2) + (S63.1 518 ((x1 + 1).toNatClampNeg))).toNatClampNeg)) (((x1 + 2) + (S63.1 518 ((x1 + 1).toNatClampNeg))) + 1) 0 S63 r hf
def f_X12_beginEach_198 (N : Nat) (k39 : Int32 → Int32 → Int32 → Int32 → xS → Option xr) (x2 : Int32) (x3 : Int32) (x4 : Int32) (x5 : Int32) (S : xS) : Option xr :=
  k39 x2 x3 x4 (x5 + 1) S
set_option maxRecDepth 100000 in
set_option maxHeartbeats 4000000 in
theorem t_X12_beginEach_198 {l : Launch} {w : xW} {g : Nat → xE} (N : Nat) (k39 : Int32 → Int32 → Int32 → Int32 → xS → Option xr) (hk39 : ∀ (x2 : Int32) (x3 : Int32) (x4 : Int32) (x5 : Int32) (S : xS) (r : xr), k39 x2 x3 x4 x5 S = some r → ES l w g M_X12_beginEach 39 [(0, .ref (w.2.1 + 503)), (2, .int x2), (3, .int x3), (4, .int x4), (5, .int x5)] [] S r) (x2 : Int32) (x3 : Int32) (x4 : Int32) (x5 : Int32) (S : xS) (r : xr) (hf : f_X12_beginEach_198 N k39 x2 x3 x4 x5 S = some r) : ES l w g M_X12_beginEach 198 [(0, .ref (w.2.1 + 503)), (2, .int x2), (3, .int x3), (4, .int x4), (5, .int x5)] [] S r := by
  unfold f_X12_beginEach_198 at hf
  refine es_l (pc' := 39) (ls' := [(5, .int (x5 + 1)), (0, .ref (w.2.1 + 503)), (2, .int x2), (3, .int x3), (4, .int x4)]) (st' := []) (fun _ _ k => e_iinc (v := x5 + 1) (ls' := [(5, .int (x5 + 1)), (0, .ref (w.2.1 + 503)), (2, .int x2), (3, .int x3), (4, .int x4)]) dX12_beginEach_198 4 rfl rfl (by decide) rfl (e_goto (tgt := 39) dX12_beginEach_201 rfl k)) ?_
  refine es_sub [1, 2, 3, 4, 0] rfl ?_
  exact hk39 x2 x3 x4 (x5 + 1) S r hf
def f_X12_beginEach_162 (N : Nat) (k39 : Int32 → Int32 → Int32 → Int32 → xS → Option xr) (x2 : Int32) (x3 : Int32) (x4 : Int32) (x5 : Int32) (x6 : Int32) (S : xS) : Option xr :=
  if xin ((64 * x2) + x6) 768 then
  if xin x5 64 then
  f_X12_beginEach_198 N k39 x2 x3 (x4 + 1) x5 (sI (sI S 526 (((64 * x2) + x6).toNatClampNeg) x5) 527 (((64 * x2) + x6).toNatClampNeg) (S.1 513 x5.toNatClampNeg))
  else none
  else none
set_option maxRecDepth 100000 in
set_option maxHeartbeats 4000000 in
theorem t_X12_beginEach_162 {l : Launch} {w : xW} {g : Nat → xE} (N : Nat) (k39 : Int32 → Int32 → Int32 → Int32 → xS → Option xr) (hk39 : ∀ (x2 : Int32) (x3 : Int32) (x4 : Int32) (x5 : Int32) (S : xS) (r : xr), k39 x2 x3 x4 x5 S = some r → ES l w g M_X12_beginEach 39 [(0, .ref (w.2.1 + 503)), (2, .int x2), (3, .int x3), (4, .int x4), (5, .int x5)] [] S r) (x2 : Int32) (x3 : Int32) (x4 : Int32) (x5 : Int32) (x6 : Int32) (S : xS) (r : xr) (hf : f_X12_beginEach_162 N k39 x2 x3 x4 x5 x6 S = some r) : ES l w g M_X12_beginEach 162 [(0, .ref (w.2.1 + 503)), (2, .int x2), (3, .int x3), (4, .int x4), (5, .int x5), (6, .int x6)] [] S r := by
  unfold f_X12_beginEach_162 at hf
  refine es_l (pc' := 163) (ls' := [(0, .ref (w.2.1 + 503)), (2, .int x2), (3, .int x3), (4, .int x4), (5, .int x5), (6, .int x6)]) (st' := [.ref (w.2.1 + 503)]) (fun _ _ k => e_aload_n dX12_beginEach_162 0 rfl k) ?_
  refine es_get (v := .ref (w.2.1 + 526)) xc_12 dX12_beginEach_163 fl_X12_133 (by decide) (by decide) (cel_503 _ _ _) rfl ?_
  refine es_l (pc' := 175) (ls' := [(0, .ref (w.2.1 + 503)), (2, .int x2), (3, .int x3), (4, .int x4), (5, .int x5), (6, .int x6)]) (st' := [.int x5, .int ((64 * x2) + x6), .ref (w.2.1 + 526)]) (fun _ _ k => e_bipush (v := 64) dX12_beginEach_166 (by decide) (e_iload_n dX12_beginEach_168 1 rfl (e_imul dX12_beginEach_169 (e_iload dX12_beginEach_170 5 rfl (e_iadd dX12_beginEach_172 (e_iload dX12_beginEach_173 4 rfl k)))))) ?_
  obtain ⟨g35, hf⟩ := xg hf
  refine es_iast dX12_beginEach_175 (by decide) (cel_526 _) g35 ?_
  refine es_l (pc' := 177) (ls' := [(0, .ref (w.2.1 + 503)), (2, .int x2), (3, .int x3), (4, .int x4), (5, .int x5), (6, .int x6)]) (st' := [.ref (w.2.1 + 503)]) (fun _ _ k => e_aload_n dX12_beginEach_176 0 rfl k) ?_
  refine es_get (v := .ref (w.2.1 + 527)) xc_12 dX12_beginEach_177 fl_X12_136 (by decide) (by decide) (cel_503 _ _ _) rfl ?_
  refine es_l (pc' := 188) (ls' := [(0, .ref (w.2.1 + 503)), (2, .int x2), (3, .int x3), (4, .int x4), (5, .int x5), (6, .int x6)]) (st' := [.ref (w.2.1 + 503), .int ((64 * x2) + x6), .ref (w.2.1 + 527)]) (fun _ _ k => e_bipush (v := 64) dX12_beginEach_180 (by decide) (e_iload_n dX12_beginEach_182 1 rfl (e_imul dX12_beginEach_183 (e_iload dX12_beginEach_184 5 rfl (e_iadd dX12_beginEach_186 (e_aload_n dX12_beginEach_187 0 rfl k)))))) ?_
  refine es_get (v := .ref (w.2.1 + 513)) xc_12 dX12_beginEach_188 fl_X12_51 (by decide) (by decide) (cel_503 _ _ _) rfl ?_
  refine es_l (pc' := 193) (ls' := [(0, .ref (w.2.1 + 503)), (2, .int x2), (3, .int x3), (4, .int x4), (5, .int x5), (6, .int x6)]) (st' := [.int x5, .ref (w.2.1 + 513), .int ((64 * x2) + x6), .ref (w.2.1 + 527)]) (fun _ _ k => e_iload dX12_beginEach_191 4 rfl k) ?_
  obtain ⟨g36, hf⟩ := xg hf
  refine es_iald (v := .int (S.1 513 x5.toNatClampNeg)) dX12_beginEach_193 (by decide) (cel_513 _ _ _) g36 rfl ?_
  refine es_iast dX12_beginEach_194 (by decide) (cel_527 _) g35 ?_
  refine es_l (pc' := 198) (ls' := [(4, .int (x4 + 1)), (0, .ref (w.2.1 + 503)), (2, .int x2), (3, .int x3), (5, .int x5), (6, .int x6)]) (st' := []) (fun _ _ k => e_iinc (v := x4 + 1) (ls' := [(4, .int (x4 + 1)), (0, .ref (w.2.1 + 503)), (2, .int x2), (3, .int x3), (5, .int x5), (6, .int x6)]) dX12_beginEach_195 3 rfl rfl (by decide) rfl k) ?_
  refine es_sub [1, 2, 3, 0, 4] rfl ?_
  exact t_X12_beginEach_198 N k39 hk39 x2 x3 (x4 + 1) x5 (sI (sI S 526 (((64 * x2) + x6).toNatClampNeg) x5) 527 (((64 * x2) + x6).toNatClampNeg) (S.1 513 x5.toNatClampNeg)) r hf
def f_X12_beginEach_60 (N : Nat) (k39 : Int32 → Int32 → Int32 → Int32 → xS → Option xr) : Nat → Int32 → Int32 → Int32 → Int32 → Int32 → xS → Option xr
  | 0, _, _, _, _, _, _ => none
  | n + 1, x2, x3, x4, x5, x6, S =>
  if x6 ≤ 0 then
    f_X12_beginEach_162 N k39 x2 x3 x4 x5 x6 S
  else
    if xin (((64 * x2) + x6) - 1) 768 then
    if xin ((6 * (S.1 526 ((((64 * x2) + x6) - 1).toNatClampNeg))) + x3) 384 then
    if xin ((6 * x5) + x3) 384 then
    if (S.1 512 (((6 * (S.1 526 ((((64 * x2) + x6) - 1).toNatClampNeg))) + x3).toNatClampNeg)) ≤ (S.1 512 (((6 * x5) + x3).toNatClampNeg)) then
      f_X12_beginEach_162 N k39 x2 x3 x4 x5 x6 S
    else
      if xin ((64 * x2) + x6) 768 then
      f_X12_beginEach_60 N k39 n x2 x3 x4 x5 (x6 + (-1)) (sI (sI S 526 (((64 * x2) + x6).toNatClampNeg) (S.1 526 ((((64 * x2) + x6) - 1).toNatClampNeg))) 527 (((64 * x2) + x6).toNatClampNeg) (S.1 527 ((((64 * x2) + x6) - 1).toNatClampNeg)))
      else none
    else none
    else none
    else none
set_option maxRecDepth 100000 in
set_option maxHeartbeats 4000000 in
theorem t_X12_beginEach_60 {l : Launch} {w : xW} {g : Nat → xE} (N : Nat) (k39 : Int32 → Int32 → Int32 → Int32 → xS → Option xr) (hk39 : ∀ (x2 : Int32) (x3 : Int32) (x4 : Int32) (x5 : Int32) (S : xS) (r : xr), k39 x2 x3 x4 x5 S = some r → ES l w g M_X12_beginEach 39 [(0, .ref (w.2.1 + 503)), (2, .int x2), (3, .int x3), (4, .int x4), (5, .int x5)] [] S r) : ∀ (n : Nat) (x2 : Int32) (x3 : Int32) (x4 : Int32) (x5 : Int32) (x6 : Int32) (S : xS) (r : xr), f_X12_beginEach_60 N k39 n x2 x3 x4 x5 x6 S = some r → ES l w g M_X12_beginEach 60 [(0, .ref (w.2.1 + 503)), (2, .int x2), (3, .int x3), (4, .int x4), (5, .int x5), (6, .int x6)] [] S r := by
  intro n
  induction n with
  | zero => intro x2 x3 x4 x5 x6 S r hf; cases hf
  | succ n ih =>
    intro x2 x3 x4 x5 x6 S r hf
    rw [f_X12_beginEach_60.eq_2] at hf
    refine es_l (pc' := 62) (ls' := [(0, .ref (w.2.1 + 503)), (2, .int x2), (3, .int x3), (4, .int x4), (5, .int x5), (6, .int x6)]) (st' := [.int x6]) (fun _ _ k => e_iload dX12_beginEach_60 5 rfl k) ?_
    refine es_br (c := x6 ≤ 0) (tgt := 162) (pf := 65) (st' := []) (fun _ _ a b => e_if_le dX12_beginEach_62 rfl a b) (fun c37 => ?_) (fun c37 => ?_)
    · rw [if_pos c37] at hf
      exact t_X12_beginEach_162 N k39 hk39 x2 x3 x4 x5 x6 S r hf
    · rw [if_neg c37] at hf
      refine es_l (pc' := 66) (ls' := [(0, .ref (w.2.1 + 503)), (2, .int x2), (3, .int x3), (4, .int x4), (5, .int x5), (6, .int x6)]) (st' := [.ref (w.2.1 + 503)]) (fun _ _ k => e_aload_n dX12_beginEach_65 0 rfl k) ?_
      refine es_get (v := .ref (w.2.1 + 512)) xc_12 dX12_beginEach_66 fl_X12_48 (by decide) (by decide) (cel_503 _ _ _) rfl ?_
      refine es_l (pc' := 72) (ls' := [(0, .ref (w.2.1 + 503)), (2, .int x2), (3, .int x3), (4, .int x4), (5, .int x5), (6, .int x6)]) (st' := [.ref (w.2.1 + 503), .int 6, .ref (w.2.1 + 512)]) (fun _ _ k => e_bipush (v := 6) dX12_beginEach_69 (by decide) (e_aload_n dX12_beginEach_71 0 rfl k)) ?_
      refine es_get (v := .ref (w.2.1 + 526)) xc_12 dX12_beginEach_72 fl_X12_133 (by decide) (by decide) (cel_503 _ _ _) rfl ?_
      refine es_l (pc' := 84) (ls' := [(0, .ref (w.2.1 + 503)), (2, .int x2), (3, .int x3), (4, .int x4), (5, .int x5), (6, .int x6)]) (st' := [.int (((64 * x2) + x6) - 1), .ref (w.2.1 + 526), .int 6, .ref (w.2.1 + 512)]) (fun _ _ k => e_bipush (v := 64) dX12_beginEach_75 (by decide) (e_iload_n dX12_beginEach_77 1 rfl (e_imul dX12_beginEach_78 (e_iload dX12_beginEach_79 5 rfl (e_iadd dX12_beginEach_81 (e_iconst (v := 1) dX12_beginEach_82 (by decide) (e_isub dX12_beginEach_83 k))))))) ?_
      obtain ⟨g38, hf⟩ := xg hf
      refine es_iald (v := .int (S.1 526 ((((64 * x2) + x6) - 1).toNatClampNeg))) dX12_beginEach_84 (by decide) (cel_526 _ _ _) g38 rfl ?_
      refine es_l (pc' := 88) (ls' := [(0, .ref (w.2.1 + 503)), (2, .int x2), (3, .int x3), (4, .int x4), (5, .int x5), (6, .int x6)]) (st' := [.int ((6 * (S.1 526 ((((64 * x2) + x6) - 1).toNatClampNeg))) + x3), .ref (w.2.1 + 512)]) (fun _ _ k => e_imul dX12_beginEach_85 (e_iload_n dX12_beginEach_86 2 rfl (e_iadd dX12_beginEach_87 k))) ?_
      obtain ⟨g39, hf⟩ := xg hf
      refine es_iald (v := .int (S.1 512 (((6 * (S.1 526 ((((64 * x2) + x6) - 1).toNatClampNeg))) + x3).toNatClampNeg))) dX12_beginEach_88 (by decide) (cel_512 _ _ _) g39 rfl ?_
      refine es_l (pc' := 90) (ls' := [(0, .ref (w.2.1 + 503)), (2, .int x2), (3, .int x3), (4, .int x4), (5, .int x5), (6, .int x6)]) (st' := [.ref (w.2.1 + 503), .int (S.1 512 (((6 * (S.1 526 ((((64 * x2) + x6) - 1).toNatClampNeg))) + x3).toNatClampNeg))]) (fun _ _ k => e_aload_n dX12_beginEach_89 0 rfl k) ?_
      refine es_get (v := .ref (w.2.1 + 512)) xc_12 dX12_beginEach_90 fl_X12_48 (by decide) (by decide) (cel_503 _ _ _) rfl ?_
      refine es_l (pc' := 100) (ls' := [(0, .ref (w.2.1 + 503)), (2, .int x2), (3, .int x3), (4, .int x4), (5, .int x5), (6, .int x6)]) (st' := [.int ((6 * x5) + x3), .ref (w.2.1 + 512), .int (S.1 512 (((6 * (S.1 526 ((((64 * x2) + x6) - 1).toNatClampNeg))) + x3).toNatClampNeg))]) (fun _ _ k => e_bipush (v := 6) dX12_beginEach_93 (by decide) (e_iload dX12_beginEach_95 4 rfl (e_imul dX12_beginEach_97 (e_iload_n dX12_beginEach_98 2 rfl (e_iadd dX12_beginEach_99 k))))) ?_
      obtain ⟨g40, hf⟩ := xg hf
      refine es_iald (v := .int (S.1 512 (((6 * x5) + x3).toNatClampNeg))) dX12_beginEach_100 (by decide) (cel_512 _ _ _) g40 rfl ?_
      refine es_br (c := (S.1 512 (((6 * (S.1 526 ((((64 * x2) + x6) - 1).toNatClampNeg))) + x3).toNatClampNeg)) ≤ (S.1 512 (((6 * x5) + x3).toNatClampNeg))) (tgt := 162) (pf := 104) (st' := []) (fun _ _ a b => e_icmp_le dX12_beginEach_101 rfl a b) (fun c41 => ?_) (fun c41 => ?_)
      · rw [if_pos c41] at hf
        exact t_X12_beginEach_162 N k39 hk39 x2 x3 x4 x5 x6 S r hf
      · rw [if_neg c41] at hf
        refine es_l (pc' := 105) (ls' := [(0, .ref (w.2.1 + 503)), (2, .int x2), (3, .int x3), (4, .int x4), (5, .int x5), (6, .int x6)]) (st' := [.ref (w.2.1 + 503)]) (fun _ _ k => e_aload_n dX12_beginEach_104 0 rfl k) ?_
        refine es_get (v := .ref (w.2.1 + 526)) xc_12 dX12_beginEach_105 fl_X12_133 (by decide) (by decide) (cel_503 _ _ _) rfl ?_
        refine es_l (pc' := 116) (ls' := [(0, .ref (w.2.1 + 503)), (2, .int x2), (3, .int x3), (4, .int x4), (5, .int x5), (6, .int x6)]) (st' := [.ref (w.2.1 + 503), .int ((64 * x2) + x6), .ref (w.2.1 + 526)]) (fun _ _ k => e_bipush (v := 64) dX12_beginEach_108 (by decide) (e_iload_n dX12_beginEach_110 1 rfl (e_imul dX12_beginEach_111 (e_iload dX12_beginEach_112 5 rfl (e_iadd dX12_beginEach_114 (e_aload_n dX12_beginEach_115 0 rfl k)))))) ?_
        refine es_get (v := .ref (w.2.1 + 526)) xc_12 dX12_beginEach_116 fl_X12_133 (by decide) (by decide) (cel_503 _ _ _) rfl ?_
        refine es_l (pc' := 128) (ls' := [(0, .ref (w.2.1 + 503)), (2, .int x2), (3, .int x3), (4, .int x4), (5, .int x5), (6, .int x6)]) (st' := [.int (((64 * x2) + x6) - 1), .ref (w.2.1 + 526), .int ((64 * x2) + x6), .ref (w.2.1 + 526)]) (fun _ _ k => e_bipush (v := 64) dX12_beginEach_119 (by decide) (e_iload_n dX12_beginEach_121 1 rfl (e_imul dX12_beginEach_122 (e_iload dX12_beginEach_123 5 rfl (e_iadd dX12_beginEach_125 (e_iconst (v := 1) dX12_beginEach_126 (by decide) (e_isub dX12_beginEach_127 k))))))) ?_
        refine es_iald (v := .int (S.1 526 ((((64 * x2) + x6) - 1).toNatClampNeg))) dX12_beginEach_128 (by decide) (cel_526 _ _ _) g38 rfl ?_
        obtain ⟨g42, hf⟩ := xg hf
        refine es_iast dX12_beginEach_129 (by decide) (cel_526 _) g42 ?_
        refine es_l (pc' := 131) (ls' := [(0, .ref (w.2.1 + 503)), (2, .int x2), (3, .int x3), (4, .int x4), (5, .int x5), (6, .int x6)]) (st' := [.ref (w.2.1 + 503)]) (fun _ _ k => e_aload_n dX12_beginEach_130 0 rfl k) ?_
        refine es_get (v := .ref (w.2.1 + 527)) xc_12 dX12_beginEach_131 fl_X12_136 (by decide) (by decide) (cel_503 _ _ _) rfl ?_
        refine es_l (pc' := 142) (ls' := [(0, .ref (w.2.1 + 503)), (2, .int x2), (3, .int x3), (4, .int x4), (5, .int x5), (6, .int x6)]) (st' := [.ref (w.2.1 + 503), .int ((64 * x2) + x6), .ref (w.2.1 + 527)]) (fun _ _ k => e_bipush (v := 64) dX12_beginEach_134 (by decide) (e_iload_n dX12_beginEach_136 1 rfl (e_imul dX12_beginEach_137 (e_iload dX12_beginEach_138 5 rfl (e_iadd dX12_beginEach_140 (e_aload_n dX12_beginEach_141 0 rfl k)))))) ?_
        refine es_get (v := .ref (w.2.1 + 527)) xc_12 dX12_beginEach_142 fl_X12_136 (by decide) (by decide) (cel_503 _ _ _) rfl ?_
        refine es_l (pc' := 154) (ls' := [(0, .ref (w.2.1 + 503)), (2, .int x2), (3, .int x3), (4, .int x4), (5, .int x5), (6, .int x6)]) (st' := [.int (((64 * x2) + x6) - 1), .ref (w.2.1 + 527), .int ((64 * x2) + x6), .ref (w.2.1 + 527)]) (fun _ _ k => e_bipush (v := 64) dX12_beginEach_145 (by decide) (e_iload_n dX12_beginEach_147 1 rfl (e_imul dX12_beginEach_148 (e_iload dX12_beginEach_149 5 rfl (e_iadd dX12_beginEach_151 (e_iconst (v := 1) dX12_beginEach_152 (by decide) (e_isub dX12_beginEach_153 k))))))) ?_
        refine es_iald (v := .int (S.1 527 ((((64 * x2) + x6) - 1).toNatClampNeg))) dX12_beginEach_154 (by decide) (cel_527 _ _ _) g38 rfl ?_
        refine es_iast dX12_beginEach_155 (by decide) (cel_527 _) g42 ?_
        refine es_l (pc' := 60) (ls' := [(6, .int (x6 + (-1))), (0, .ref (w.2.1 + 503)), (2, .int x2), (3, .int x3), (4, .int x4), (5, .int x5)]) (st' := []) (fun _ _ k => e_iinc (v := x6 + (-1)) (ls' := [(6, .int (x6 + (-1))), (0, .ref (w.2.1 + 503)), (2, .int x2), (3, .int x3), (4, .int x4), (5, .int x5)]) dX12_beginEach_156 5 rfl rfl (by decide) rfl (e_goto (tgt := 60) dX12_beginEach_159 rfl k)) ?_
        refine es_sub [1, 2, 3, 4, 5, 0] rfl ?_
        exact ih x2 x3 x4 x5 (x6 + (-1)) (sI (sI S 526 (((64 * x2) + x6).toNatClampNeg) (S.1 526 ((((64 * x2) + x6) - 1).toNatClampNeg))) 527 (((64 * x2) + x6).toNatClampNeg) (S.1 527 ((((64 * x2) + x6) - 1).toNatClampNeg))) r hf
def f_X12_beginEach_39 (N : Nat)  : Nat → Int32 → Int32 → Int32 → Int32 → xS → Option xr
  | 0, _, _, _, _, _ => none
  | n + 1, x2, x3, x4, x5, S =>
  if 64 ≤ x5 then
    if xin x2 12 then
    some (.inl none, sI (sI S 528 x2.toNatClampNeg x4) 529 x2.toNatClampNeg ((-1)))
    else none
  else
    if xin x5 64 then
    if (S.1 531 x5.toNatClampNeg) = 0 then
      f_X12_beginEach_198 N (f_X12_beginEach_39 N n) x2 x3 x4 x5 S
    else
      f_X12_beginEach_60 N (f_X12_beginEach_39 N n) N x2 x3 x4 x5 x4 S
    else none
set_option maxRecDepth 100000 in
set_option maxHeartbeats 4000000 in
theorem t_X12_beginEach_39 {l : Launch} {w : xW} {g : Nat → xE} (N : Nat)   : ∀ (n : Nat) (x2 : Int32) (x3 : Int32) (x4 : Int32) (x5 : Int32) (S : xS) (r : xr), f_X12_beginEach_39 N  n x2 x3 x4 x5 S = some r → ES l w g M_X12_beginEach 39 [(0, .ref (w.2.1 + 503)), (2, .int x2), (3, .int x3), (4, .int x4), (5, .int x5)] [] S r := by
  intro n
  induction n with
  | zero => intro x2 x3 x4 x5 S r hf; cases hf
  | succ n ih =>
    intro x2 x3 x4 x5 S r hf
    rw [f_X12_beginEach_39.eq_2] at hf
    refine es_l (pc' := 43) (ls' := [(0, .ref (w.2.1 + 503)), (2, .int x2), (3, .int x3), (4, .int x4), (5, .int x5)]) (st' := [.int 64, .int x5]) (fun _ _ k => e_iload dX12_beginEach_39 4 rfl (e_bipush (v := 64) dX12_beginEach_41 (by decide) k)) ?_
    refine es_br (c := 64 ≤ x5) (tgt := 204) (pf := 46) (st' := []) (fun _ _ a b => e_icmp_ge dX12_beginEach_43 rfl a b) (fun c43 => ?_) (fun c43 => ?_)
    · rw [if_pos c43] at hf
      refine es_l (pc' := 205) (ls' := [(0, .ref (w.2.1 + 503)), (2, .int x2), (3, .int x3), (4, .int x4), (5, .int x5)]) (st' := [.ref (w.2.1 + 503)]) (fun _ _ k => e_aload_n dX12_beginEach_204 0 rfl k) ?_
      refine es_get (v := .ref (w.2.1 + 528)) xc_12 dX12_beginEach_205 fl_X12_139 (by decide) (by decide) (cel_503 _ _ _) rfl ?_
      refine es_l (pc' := 211) (ls' := [(0, .ref (w.2.1 + 503)), (2, .int x2), (3, .int x3), (4, .int x4), (5, .int x5)]) (st' := [.int x4, .int x2, .ref (w.2.1 + 528)]) (fun _ _ k => e_iload_n dX12_beginEach_208 1 rfl (e_iload dX12_beginEach_209 3 rfl k)) ?_
      obtain ⟨g44, hf⟩ := xg hf
      refine es_iast dX12_beginEach_211 (by decide) (cel_528 _) g44 ?_
      refine es_l (pc' := 213) (ls' := [(0, .ref (w.2.1 + 503)), (2, .int x2), (3, .int x3), (4, .int x4), (5, .int x5)]) (st' := [.ref (w.2.1 + 503)]) (fun _ _ k => e_aload_n dX12_beginEach_212 0 rfl k) ?_
      refine es_get (v := .ref (w.2.1 + 529)) xc_12 dX12_beginEach_213 fl_X12_142 (by decide) (by decide) (cel_503 _ _ _) rfl ?_
      refine es_l (pc' := 218) (ls' := [(0, .ref (w.2.1 + 503)), (2, .int x2), (3, .int x3), (4, .int x4), (5, .int x5)]) (st' := [.int ((-1)), .int x2, .ref (w.2.1 + 529)]) (fun _ _ k => e_iload_n dX12_beginEach_216 1 rfl (e_iconst (v := (-1)) dX12_beginEach_217 (by decide) k)) ?_
      refine es_iast dX12_beginEach_218 (by decide) (cel_529 _) g44 ?_
      exact es_return dX12_beginEach_219 rfl hf
    · rw [if_neg c43] at hf
      refine es_l (pc' := 47) (ls' := [(0, .ref (w.2.1 + 503)), (2, .int x2), (3, .int x3), (4, .int x4), (5, .int x5)]) (st' := [.ref (w.2.1 + 503)]) (fun _ _ k => e_aload_n dX12_beginEach_46 0 rfl k) ?_
      refine es_get (v := .ref (w.2.1 + 531)) xc_12 dX12_beginEach_47 fl_X12_148 (by decide) (by decide) (cel_503 _ _ _) rfl ?_
      refine es_l (pc' := 52) (ls' := [(0, .ref (w.2.1 + 503)), (2, .int x2), (3, .int x3), (4, .int x4), (5, .int x5)]) (st' := [.int x5, .ref (w.2.1 + 531)]) (fun _ _ k => e_iload dX12_beginEach_50 4 rfl k) ?_
      obtain ⟨g45, hf⟩ := xg hf
      refine es_zald (v := .int (S.1 531 x5.toNatClampNeg)) dX12_beginEach_52 (by decide) (cel_531 _ _ _) g45 rfl ?_
      refine es_br (c := (S.1 531 x5.toNatClampNeg) = 0) (tgt := 198) (pf := 56) (st' := []) (fun _ _ a b => e_if_eq dX12_beginEach_53 rfl a b) (fun c46 => ?_) (fun c46 => ?_)
      · rw [if_pos c46] at hf
        exact t_X12_beginEach_198 N (f_X12_beginEach_39 N n) ih x2 x3 x4 x5 S r hf
      · rw [if_neg c46] at hf
        refine es_l (pc' := 60) (ls' := [(6, .int x4), (0, .ref (w.2.1 + 503)), (2, .int x2), (3, .int x3), (4, .int x4), (5, .int x5)]) (st' := []) (fun _ _ k => e_iload dX12_beginEach_56 3 rfl (e_istore (ls' := [(6, .int x4), (0, .ref (w.2.1 + 503)), (2, .int x2), (3, .int x3), (4, .int x4), (5, .int x5)]) dX12_beginEach_58 (by decide) rfl k)) ?_
        refine es_sub [1, 2, 3, 4, 5, 0] rfl ?_
        exact t_X12_beginEach_60 N (f_X12_beginEach_39 N n) ih N x2 x3 x4 x5 x4 S r hf
def f_X12_beginEach (N : Nat) (x1 : Int32) (S : xS) : Option xr :=
  if xin (x1 + 1) 3000 then
  if xin (x1 + 3) 3000 then
  if xin (x1 + 2) 3000 then
  xcV (f_X12_choose N (S.1 518 ((x1 + 2).toNatClampNeg)) (x1 + 4) S) (fun S50 =>
  f_X12_beginEach_39 N N (S.1 518 ((x1 + 1).toNatClampNeg)) (S.1 518 ((x1 + 3).toNatClampNeg)) 0 0 S50
  )
  else none
  else none
  else none
set_option maxRecDepth 100000 in
set_option maxHeartbeats 4000000 in
theorem t_X12_beginEach {l : Launch} {w : xW} {g : Nat → xE} (N : Nat) (x1 : Int32) (S : xS) (r : xr) (hf : f_X12_beginEach N x1 S = some r) : ES l w g M_X12_beginEach 0 (lv_args 0 [.ref (w.2.1 + 503), .int x1]) [] S r := by
  show ES l w g M_X12_beginEach 0 [(0, .ref (w.2.1 + 503)), (1, .int x1)] [] S r
  unfold f_X12_beginEach at hf
  refine es_l (pc' := 1) (ls' := [(0, .ref (w.2.1 + 503)), (1, .int x1)]) (st' := [.ref (w.2.1 + 503)]) (fun _ _ k => e_aload_n dX12_beginEach_0 0 rfl k) ?_
  refine es_get (v := .ref (w.2.1 + 518)) xc_12 dX12_beginEach_1 fl_X12_85 (by decide) (by decide) (cel_503 _ _ _) rfl ?_
  refine es_l (pc' := 7) (ls' := [(0, .ref (w.2.1 + 503)), (1, .int x1)]) (st' := [.int (x1 + 1), .ref (w.2.1 + 518)]) (fun _ _ k => e_iload_n dX12_beginEach_4 1 rfl (e_iconst (v := 1) dX12_beginEach_5 (by decide) (e_iadd dX12_beginEach_6 k))) ?_
  obtain ⟨g47, hf⟩ := xg hf
  refine es_iald (v := .int (S.1 518 ((x1 + 1).toNatClampNeg))) dX12_beginEach_7 (by decide) (cel_518 _ _ _) g47 rfl ?_
  refine es_l (pc' := 10) (ls' := [(2, .int (S.1 518 ((x1 + 1).toNatClampNeg))), (0, .ref (w.2.1 + 503)), (1, .int x1)]) (st' := [.ref (w.2.1 + 503)]) (fun _ _ k => e_istore_n (ls' := [(2, .int (S.1 518 ((x1 + 1).toNatClampNeg))), (0, .ref (w.2.1 + 503)), (1, .int x1)]) dX12_beginEach_8 (by decide) rfl (e_aload_n dX12_beginEach_9 1 rfl k)) ?_
  refine es_get (v := .ref (w.2.1 + 518)) xc_12 dX12_beginEach_10 fl_X12_85 (by decide) (by decide) (cel_503 _ _ _) rfl ?_
  refine es_l (pc' := 16) (ls' := [(2, .int (S.1 518 ((x1 + 1).toNatClampNeg))), (0, .ref (w.2.1 + 503)), (1, .int x1)]) (st' := [.int (x1 + 3), .ref (w.2.1 + 518)]) (fun _ _ k => e_iload_n dX12_beginEach_13 2 rfl (e_iconst (v := 3) dX12_beginEach_14 (by decide) (e_iadd dX12_beginEach_15 k))) ?_
  obtain ⟨g48, hf⟩ := xg hf
  refine es_iald (v := .int (S.1 518 ((x1 + 3).toNatClampNeg))) dX12_beginEach_16 (by decide) (cel_518 _ _ _) g48 rfl ?_
  refine es_l (pc' := 20) (ls' := [(3, .int (S.1 518 ((x1 + 3).toNatClampNeg))), (2, .int (S.1 518 ((x1 + 1).toNatClampNeg))), (0, .ref (w.2.1 + 503)), (1, .int x1)]) (st' := [.ref (w.2.1 + 503), .ref (w.2.1 + 503)]) (fun _ _ k => e_istore_n (ls' := [(3, .int (S.1 518 ((x1 + 3).toNatClampNeg))), (2, .int (S.1 518 ((x1 + 1).toNatClampNeg))), (0, .ref (w.2.1 + 503)), (1, .int x1)]) dX12_beginEach_17 (by decide) rfl (e_aload_n dX12_beginEach_18 2 rfl (e_aload_n dX12_beginEach_19 2 rfl k))) ?_
  refine es_get (v := .ref (w.2.1 + 518)) xc_12 dX12_beginEach_20 fl_X12_85 (by decide) (by decide) (cel_503 _ _ _) rfl ?_
  refine es_l (pc' := 26) (ls' := [(3, .int (S.1 518 ((x1 + 3).toNatClampNeg))), (2, .int (S.1 518 ((x1 + 1).toNatClampNeg))), (0, .ref (w.2.1 + 503)), (1, .int x1)]) (st' := [.int (x1 + 2), .ref (w.2.1 + 518), .ref (w.2.1 + 503)]) (fun _ _ k => e_iload_n dX12_beginEach_23 3 rfl (e_iconst (v := 2) dX12_beginEach_24 (by decide) (e_iadd dX12_beginEach_25 k))) ?_
  obtain ⟨g49, hf⟩ := xg hf
  refine es_iald (v := .int (S.1 518 ((x1 + 2).toNatClampNeg))) dX12_beginEach_26 (by decide) (cel_518 _ _ _) g49 rfl ?_
  refine es_l (pc' := 30) (ls' := [(3, .int (S.1 518 ((x1 + 3).toNatClampNeg))), (2, .int (S.1 518 ((x1 + 1).toNatClampNeg))), (0, .ref (w.2.1 + 503)), (1, .int x1)]) (st' := [.int (x1 + 4), .int (S.1 518 ((x1 + 2).toNatClampNeg)), .ref (w.2.1 + 503)]) (fun _ _ k => e_iload_n dX12_beginEach_27 3 rfl (e_iconst (v := 4) dX12_beginEach_28 (by decide) (e_iadd dX12_beginEach_29 k))) ?_
  refine es_callVV (as := [.int (S.1 518 ((x1 + 2).toNatClampNeg)), .int (x1 + 4)]) (rest := []) hf xc_12 dX12_beginEach_30 cs_X12_beginEach_X12_choose ml_X12_393 im_X12_choose se_X12_choose rfl rfl (Nat.le_of_ble_eq_true rfl) (Nat.le_of_ble_eq_true rfl) (by decide) rfl (cel_503 _ _ _) (fun _ e => t_X12_choose N (S.1 518 ((x1 + 2).toNatClampNeg)) (x1 + 4) S _ e) (by decide) (fun S50 hf => ?_)
  refine es_l (pc' := 39) (ls' := [(5, .int 0), (4, .int 0), (3, .int (S.1 518 ((x1 + 3).toNatClampNeg))), (2, .int (S.1 518 ((x1 + 1).toNatClampNeg))), (0, .ref (w.2.1 + 503)), (1, .int x1)]) (st' := []) (fun _ _ k => e_iconst (v := 0) dX12_beginEach_33 (by decide) (e_istore (ls' := [(4, .int 0), (3, .int (S.1 518 ((x1 + 3).toNatClampNeg))), (2, .int (S.1 518 ((x1 + 1).toNatClampNeg))), (0, .ref (w.2.1 + 503)), (1, .int x1)]) dX12_beginEach_34 (by decide) rfl (e_iconst (v := 0) dX12_beginEach_36 (by decide) (e_istore (ls' := [(5, .int 0), (4, .int 0), (3, .int (S.1 518 ((x1 + 3).toNatClampNeg))), (2, .int (S.1 518 ((x1 + 1).toNatClampNeg))), (0, .ref (w.2.1 + 503)), (1, .int x1)]) dX12_beginEach_37 (by decide) rfl k)))) ?_
  refine es_sub [4, 3, 2, 1, 0] rfl ?_
  exact t_X12_beginEach_39 N N (S.1 518 ((x1 + 1).toNatClampNeg)) (S.1 518 ((x1 + 3).toNatClampNeg)) 0 0 S50 r hf
def f_X12_nextEach_74 (N : Nat)  (s0 : Int32) (S : xS) : Option xr :=
  if xbo s0 then
  some (.inl (some (.inl s0)), S)
  else none
set_option maxRecDepth 100000 in
set_option maxHeartbeats 4000000 in
theorem t_X12_nextEach_74 {l : Launch} {w : xW} {g : Nat → xE} (N : Nat)   (s0 : Int32) (S : xS) (r : xr) (hf : f_X12_nextEach_74 N  s0 S = some r) : ES l w g M_X12_nextEach 74 [] [.int s0] S r := by
  unfold f_X12_nextEach_74 at hf
  obtain ⟨g19, hf⟩ := xg hf
  exact es_ireturn (ty := .boolean) dX12_nextEach_74 rfl (xbo_n g19) hf
def f_X12_nextEach_54 (N : Nat)  (x1 : Int32) (S : xS) : Option xr :=
  if xin x1 12 then
  if (S.1 528 x1.toNatClampNeg) ≤ (S.1 529 x1.toNatClampNeg) then
    f_X12_nextEach_74 N 0 S
  else
    f_X12_nextEach_74 N 1 S
  else none
set_option maxRecDepth 100000 in
set_option maxHeartbeats 4000000 in
theorem t_X12_nextEach_54 {l : Launch} {w : xW} {g : Nat → xE} (N : Nat)   (x1 : Int32) (S : xS) (r : xr) (hf : f_X12_nextEach_54 N  x1 S = some r) : ES l w g M_X12_nextEach 54 [(0, .ref (w.2.1 + 503)), (1, .int x1)] [] S r := by
  unfold f_X12_nextEach_54 at hf
  refine es_l (pc' := 55) (ls' := [(0, .ref (w.2.1 + 503)), (1, .int x1)]) (st' := [.ref (w.2.1 + 503)]) (fun _ _ k => e_aload_n dX12_nextEach_54 0 rfl k) ?_
  refine es_get (v := .ref (w.2.1 + 529)) xc_12 dX12_nextEach_55 fl_X12_142 (by decide) (by decide) (cel_503 _ _ _) rfl ?_
  refine es_l (pc' := 59) (ls' := [(0, .ref (w.2.1 + 503)), (1, .int x1)]) (st' := [.int x1, .ref (w.2.1 + 529)]) (fun _ _ k => e_iload_n dX12_nextEach_58 1 rfl k) ?_
  obtain ⟨g20, hf⟩ := xg hf
  refine es_iald (v := .int (S.1 529 x1.toNatClampNeg)) dX12_nextEach_59 (by decide) (cel_529 _ _ _) g20 rfl ?_
  refine es_l (pc' := 61) (ls' := [(0, .ref (w.2.1 + 503)), (1, .int x1)]) (st' := [.ref (w.2.1 + 503), .int (S.1 529 x1.toNatClampNeg)]) (fun _ _ k => e_aload_n dX12_nextEach_60 0 rfl k) ?_
  refine es_get (v := .ref (w.2.1 + 528)) xc_12 dX12_nextEach_61 fl_X12_139 (by decide) (by decide) (cel_503 _ _ _) rfl ?_
  refine es_l (pc' := 65) (ls' := [(0, .ref (w.2.1 + 503)), (1, .int x1)]) (st' := [.int x1, .ref (w.2.1 + 528), .int (S.1 529 x1.toNatClampNeg)]) (fun _ _ k => e_iload_n dX12_nextEach_64 1 rfl k) ?_
  refine es_iald (v := .int (S.1 528 x1.toNatClampNeg)) dX12_nextEach_65 (by decide) (cel_528 _ _ _) g20 rfl ?_
  refine es_br (c := (S.1 528 x1.toNatClampNeg) ≤ (S.1 529 x1.toNatClampNeg)) (tgt := 73) (pf := 69) (st' := []) (fun _ _ a b => e_icmp_ge dX12_nextEach_66 rfl a b) (fun c21 => ?_) (fun c21 => ?_)
  · rw [if_pos c21] at hf
    refine es_l (pc' := 74) (ls' := [(0, .ref (w.2.1 + 503)), (1, .int x1)]) (st' := [.int 0]) (fun _ _ k => e_iconst (v := 0) dX12_nextEach_73 (by decide) k) ?_
    refine es_sub [] rfl ?_
    exact t_X12_nextEach_74 N 0 S r hf
  · rw [if_neg c21] at hf
    refine es_l (pc' := 74) (ls' := [(0, .ref (w.2.1 + 503)), (1, .int x1)]) (st' := [.int 1]) (fun _ _ k => e_iconst (v := 1) dX12_nextEach_69 (by decide) (e_goto (tgt := 74) dX12_nextEach_70 rfl k)) ?_
    refine es_sub [] rfl ?_
    exact t_X12_nextEach_74 N 1 S r hf
def f_X12_nextEach_14 (N : Nat)  : Nat → Int32 → xS → Option xr
  | 0, _, _ => none
  | n + 1, x1, S =>
  if xin x1 12 then
  if (S.1 528 x1.toNatClampNeg) ≤ (S.1 529 x1.toNatClampNeg) then
    f_X12_nextEach_54 N x1 S
  else
    xcI (f_X12_cursorThere N x1 S) (fun v25 S24 =>
    if v25 = 0 then
      f_X12_nextEach_14 N n x1 (sI S24 529 x1.toNatClampNeg ((S24.1 529 x1.toNatClampNeg) + 1))
    else
      f_X12_nextEach_54 N x1 S24
    )
  else none
set_option maxRecDepth 100000 in
set_option maxHeartbeats 4000000 in
theorem t_X12_nextEach_14 {l : Launch} {w : xW} {g : Nat → xE} (N : Nat)   : ∀ (n : Nat) (x1 : Int32) (S : xS) (r : xr), f_X12_nextEach_14 N  n x1 S = some r → ES l w g M_X12_nextEach 14 [(0, .ref (w.2.1 + 503)), (1, .int x1)] [] S r := by
  intro n
  induction n with
  | zero => intro x1 S r hf; cases hf
  | succ n ih =>
    intro x1 S r hf
    rw [f_X12_nextEach_14.eq_2] at hf
    refine es_l (pc' := 15) (ls' := [(0, .ref (w.2.1 + 503)), (1, .int x1)]) (st' := [.ref (w.2.1 + 503)]) (fun _ _ k => e_aload_n dX12_nextEach_14 0 rfl k) ?_
    refine es_get (v := .ref (w.2.1 + 529)) xc_12 dX12_nextEach_15 fl_X12_142 (by decide) (by decide) (cel_503 _ _ _) rfl ?_
    refine es_l (pc' := 19) (ls' := [(0, .ref (w.2.1 + 503)), (1, .int x1)]) (st' := [.int x1, .ref (w.2.1 + 529)]) (fun _ _ k => e_iload_n dX12_nextEach_18 1 rfl k) ?_
    obtain ⟨g22, hf⟩ := xg hf
    refine es_iald (v := .int (S.1 529 x1.toNatClampNeg)) dX12_nextEach_19 (by decide) (cel_529 _ _ _) g22 rfl ?_
    refine es_l (pc' := 21) (ls' := [(0, .ref (w.2.1 + 503)), (1, .int x1)]) (st' := [.ref (w.2.1 + 503), .int (S.1 529 x1.toNatClampNeg)]) (fun _ _ k => e_aload_n dX12_nextEach_20 0 rfl k) ?_
    refine es_get (v := .ref (w.2.1 + 528)) xc_12 dX12_nextEach_21 fl_X12_139 (by decide) (by decide) (cel_503 _ _ _) rfl ?_
    refine es_l (pc' := 25) (ls' := [(0, .ref (w.2.1 + 503)), (1, .int x1)]) (st' := [.int x1, .ref (w.2.1 + 528), .int (S.1 529 x1.toNatClampNeg)]) (fun _ _ k => e_iload_n dX12_nextEach_24 1 rfl k) ?_
    refine es_iald (v := .int (S.1 528 x1.toNatClampNeg)) dX12_nextEach_25 (by decide) (cel_528 _ _ _) g22 rfl ?_
    refine es_br (c := (S.1 528 x1.toNatClampNeg) ≤ (S.1 529 x1.toNatClampNeg)) (tgt := 54) (pf := 29) (st' := []) (fun _ _ a b => e_icmp_ge dX12_nextEach_26 rfl a b) (fun c23 => ?_) (fun c23 => ?_)
    · rw [if_pos c23] at hf
      exact t_X12_nextEach_54 N x1 S r hf
    · rw [if_neg c23] at hf
      refine es_l (pc' := 31) (ls' := [(0, .ref (w.2.1 + 503)), (1, .int x1)]) (st' := [.int x1, .ref (w.2.1 + 503)]) (fun _ _ k => e_aload_n dX12_nextEach_29 0 rfl (e_iload_n dX12_nextEach_30 1 rfl k)) ?_
      refine es_callVI (as := [.int x1]) (rest := []) hf xc_12 dX12_nextEach_31 cs_X12_nextEach_X12_cursorThere ml_X12_370 im_X12_cursorThere se_X12_cursorThere rfl rfl (Nat.le_of_ble_eq_true rfl) (Nat.le_of_ble_eq_true rfl) (by decide) rfl (cel_503 _ _ _) (fun _ e => t_X12_cursorThere N x1 S _ e) (by decide) (fun v25 S24 hf => ?_)
      refine es_br (c := v25 = 0) (tgt := 37) (pf := 54) (st' := []) (fun _ _ a b => e_if_ne dX12_nextEach_34 rfl b a) (fun c26 => ?_) (fun c26 => ?_)
      · rw [if_pos c26] at hf
        refine es_l (pc' := 38) (ls' := [(0, .ref (w.2.1 + 503)), (1, .int x1)]) (st' := [.ref (w.2.1 + 503)]) (fun _ _ k => e_aload_n dX12_nextEach_37 0 rfl k) ?_
        refine es_get (v := .ref (w.2.1 + 529)) xc_12 dX12_nextEach_38 fl_X12_142 (by decide) (by decide) (cel_503 _ _ _) rfl ?_
        refine es_l (pc' := 43) (ls' := [(0, .ref (w.2.1 + 503)), (1, .int x1)]) (st' := [.ref (w.2.1 + 503), .int x1, .ref (w.2.1 + 529)]) (fun _ _ k => e_iload_n dX12_nextEach_41 1 rfl (e_aload_n dX12_nextEach_42 0 rfl k)) ?_
        refine es_get (v := .ref (w.2.1 + 529)) xc_12 dX12_nextEach_43 fl_X12_142 (by decide) (by decide) (cel_503 _ _ _) rfl ?_
        refine es_l (pc' := 47) (ls' := [(0, .ref (w.2.1 + 503)), (1, .int x1)]) (st' := [.int x1, .ref (w.2.1 + 529), .int x1, .ref (w.2.1 + 529)]) (fun _ _ k => e_iload_n dX12_nextEach_46 1 rfl k) ?_
        refine es_iald (v := .int (S24.1 529 x1.toNatClampNeg)) dX12_nextEach_47 (by decide) (cel_529 _ _ _) g22 rfl ?_
        refine es_l (pc' := 50) (ls' := [(0, .ref (w.2.1 + 503)), (1, .int x1)]) (st' := [.int ((S24.1 529 x1.toNatClampNeg) + 1), .int x1, .ref (w.2.1 + 529)]) (fun _ _ k => e_iconst (v := 1) dX12_nextEach_48 (by decide) (e_iadd dX12_nextEach_49 k)) ?_
        refine es_iast dX12_nextEach_50 (by decide) (cel_529 _) g22 ?_
        refine es_l (pc' := 14) (ls' := [(0, .ref (w.2.1 + 503)), (1, .int x1)]) (st' := []) (fun _ _ k => e_goto (tgt := 14) dX12_nextEach_51 rfl k) ?_
        exact ih x1 (sI S24 529 x1.toNatClampNeg ((S24.1 529 x1.toNatClampNeg) + 1)) r hf
      · rw [if_neg c26] at hf
        exact t_X12_nextEach_54 N x1 S24 r hf
def f_X12_nextEach (N : Nat) (x1 : Int32) (S : xS) : Option xr :=
  if xin x1 12 then
  f_X12_nextEach_14 N N x1 (sI S 529 x1.toNatClampNeg ((S.1 529 x1.toNatClampNeg) + 1))
  else none
set_option maxRecDepth 100000 in
set_option maxHeartbeats 4000000 in
theorem t_X12_nextEach {l : Launch} {w : xW} {g : Nat → xE} (N : Nat) (x1 : Int32) (S : xS) (r : xr) (hf : f_X12_nextEach N x1 S = some r) : ES l w g M_X12_nextEach 0 (lv_args 0 [.ref (w.2.1 + 503), .int x1]) [] S r := by
  show ES l w g M_X12_nextEach 0 [(0, .ref (w.2.1 + 503)), (1, .int x1)] [] S r
  unfold f_X12_nextEach at hf
  refine es_l (pc' := 1) (ls' := [(0, .ref (w.2.1 + 503)), (1, .int x1)]) (st' := [.ref (w.2.1 + 503)]) (fun _ _ k => e_aload_n dX12_nextEach_0 0 rfl k) ?_
  refine es_get (v := .ref (w.2.1 + 529)) xc_12 dX12_nextEach_1 fl_X12_142 (by decide) (by decide) (cel_503 _ _ _) rfl ?_
  refine es_l (pc' := 6) (ls' := [(0, .ref (w.2.1 + 503)), (1, .int x1)]) (st' := [.ref (w.2.1 + 503), .int x1, .ref (w.2.1 + 529)]) (fun _ _ k => e_iload_n dX12_nextEach_4 1 rfl (e_aload_n dX12_nextEach_5 0 rfl k)) ?_
  refine es_get (v := .ref (w.2.1 + 529)) xc_12 dX12_nextEach_6 fl_X12_142 (by decide) (by decide) (cel_503 _ _ _) rfl ?_
  refine es_l (pc' := 10) (ls' := [(0, .ref (w.2.1 + 503)), (1, .int x1)]) (st' := [.int x1, .ref (w.2.1 + 529), .int x1, .ref (w.2.1 + 529)]) (fun _ _ k => e_iload_n dX12_nextEach_9 1 rfl k) ?_
  obtain ⟨g27, hf⟩ := xg hf
  refine es_iald (v := .int (S.1 529 x1.toNatClampNeg)) dX12_nextEach_10 (by decide) (cel_529 _ _ _) g27 rfl ?_
  refine es_l (pc' := 13) (ls' := [(0, .ref (w.2.1 + 503)), (1, .int x1)]) (st' := [.int ((S.1 529 x1.toNatClampNeg) + 1), .int x1, .ref (w.2.1 + 529)]) (fun _ _ k => e_iconst (v := 1) dX12_nextEach_11 (by decide) (e_iadd dX12_nextEach_12 k)) ?_
  refine es_iast dX12_nextEach_13 (by decide) (cel_529 _) g27 ?_
  exact t_X12_nextEach_14 N N x1 (sI S 529 x1.toNatClampNeg ((S.1 529 x1.toNatClampNeg) + 1)) r hf
