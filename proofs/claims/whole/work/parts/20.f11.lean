def f_X12_closes_60 (N : Nat)   (S : xS) : Option xr :=
  some (.inl (some (.inl 1)), S)
set_option maxRecDepth 100000 in
set_option maxHeartbeats 4000000 in
theorem t_X12_closes_60 {l : Launch} {w : xW} {g : Nat → xE} (N : Nat)    (S : xS) (r : xr) (hf : f_X12_closes_60 N   S = some r) : ES l w g M_X12_closes 60 [] [] S r := by
  unfold f_X12_closes_60 at hf
  refine es_l (pc' := 61) (ls' := []) (st' := [.int 1]) (fun _ _ k => e_iconst (v := 1) dX12_closes_60 (by decide) k) ?_
  exact es_ireturn (ty := .boolean) dX12_closes_61 rfl rfl hf
def f_X12_closes (N : Nat) (x1 : Int32) (S : xS) : Option xr :=
  xcV (f_X12_unwind N x1 0 S) (fun S15 =>
  if (S15.1 503 28) = x1 then
    some (.inl (some (.inl 0)), S15)
  else
    if xin ((S15.1 503 28) - 1) 160 then
    if (S15.1 519 (((S15.1 503 28) - 1).toNatClampNeg)) = 2 then
      xcV (f_X12_emit N 31 (sI (sI S15 503 28 ((S15.1 503 28) - 1)) 503 26 ((S15.1 503 26) - 1))) (fun S20 =>
      f_X12_closes_60 N (sI S20 503 29 ((-1)))
      )
    else
      f_X12_closes_60 N (sI (sI S15 503 28 ((S15.1 503 28) - 1)) 503 26 ((S15.1 503 26) - 1))
    else none
  )
set_option maxRecDepth 100000 in
set_option maxHeartbeats 4000000 in
theorem t_X12_closes {l : Launch} {w : xW} {g : Nat → xE} (N : Nat) (x1 : Int32) (S : xS) (r : xr) (hf : f_X12_closes N x1 S = some r) : ES l w g M_X12_closes 0 (lv_args 0 [.ref (w.2.1 + 503), .int x1]) [] S r := by
  show ES l w g M_X12_closes 0 [(0, .ref (w.2.1 + 503)), (1, .int x1)] [] S r
  unfold f_X12_closes at hf
  refine es_l (pc' := 3) (ls' := [(0, .ref (w.2.1 + 503)), (1, .int x1)]) (st' := [.int 0, .int x1, .ref (w.2.1 + 503)]) (fun _ _ k => e_aload_n dX12_closes_0 0 rfl (e_iload_n dX12_closes_1 1 rfl (e_iconst (v := 0) dX12_closes_2 (by decide) k))) ?_
  refine es_callVV (as := [.int x1, .int 0]) (rest := []) hf xc_12 dX12_closes_3 cs_X12_closes_X12_unwind ml_X12_271 im_X12_unwind se_X12_unwind rfl rfl (Nat.le_of_ble_eq_true rfl) (Nat.le_of_ble_eq_true rfl) (by decide) rfl (cel_503 _ _ _) (fun _ e => t_X12_unwind N x1 0 S _ e) (by decide) (fun S15 hf => ?_)
  refine es_l (pc' := 7) (ls' := [(0, .ref (w.2.1 + 503)), (1, .int x1)]) (st' := [.ref (w.2.1 + 503)]) (fun _ _ k => e_aload_n dX12_closes_6 0 rfl k) ?_
  refine es_get (v := .int (S15.1 503 28)) xc_12 dX12_closes_7 fl_X12_97 (by decide) (by decide) (cel_503 _ _ _) rfl ?_
  refine es_l (pc' := 11) (ls' := [(0, .ref (w.2.1 + 503)), (1, .int x1)]) (st' := [.int x1, .int (S15.1 503 28)]) (fun _ _ k => e_iload_n dX12_closes_10 1 rfl k) ?_
  refine es_br (c := (S15.1 503 28) = x1) (tgt := 14) (pf := 16) (st' := []) (fun _ _ a b => e_icmp_ne dX12_closes_11 rfl b a) (fun c17 => ?_) (fun c17 => ?_)
  · rw [if_pos c17] at hf
    refine es_l (pc' := 15) (ls' := [(0, .ref (w.2.1 + 503)), (1, .int x1)]) (st' := [.int 0]) (fun _ _ k => e_iconst (v := 0) dX12_closes_14 (by decide) k) ?_
    exact es_ireturn (ty := .boolean) dX12_closes_15 rfl rfl hf
  · rw [if_neg c17] at hf
    refine es_l (pc' := 18) (ls' := [(0, .ref (w.2.1 + 503)), (1, .int x1)]) (st' := [.ref (w.2.1 + 503), .ref (w.2.1 + 503)]) (fun _ _ k => e_aload_n dX12_closes_16 0 rfl (e_dup dX12_closes_17 rfl k)) ?_
    refine es_get (v := .int (S15.1 503 28)) xc_12 dX12_closes_18 fl_X12_97 (by decide) (by decide) (cel_503 _ _ _) rfl ?_
    refine es_l (pc' := 23) (ls' := [(0, .ref (w.2.1 + 503)), (1, .int x1)]) (st' := [.int ((S15.1 503 28) - 1), .ref (w.2.1 + 503)]) (fun _ _ k => e_iconst (v := 1) dX12_closes_21 (by decide) (e_isub dX12_closes_22 k)) ?_
    refine es_put xc_12 dX12_closes_23 fl_X12_97 (by decide) (by decide) (by decide) (cel_503 _ _ _) rfl rfl rfl rfl ?_
    refine es_l (pc' := 28) (ls' := [(0, .ref (w.2.1 + 503)), (1, .int x1)]) (st' := [.ref (w.2.1 + 503), .ref (w.2.1 + 503)]) (fun _ _ k => e_aload_n dX12_closes_26 0 rfl (e_dup dX12_closes_27 rfl k)) ?_
    refine es_get (v := .int (S15.1 503 26)) xc_12 dX12_closes_28 fl_X12_91 (by decide) (by decide) (cel_503 _ _ _) rfl ?_
    refine es_l (pc' := 33) (ls' := [(0, .ref (w.2.1 + 503)), (1, .int x1)]) (st' := [.int ((S15.1 503 26) - 1), .ref (w.2.1 + 503)]) (fun _ _ k => e_iconst (v := 1) dX12_closes_31 (by decide) (e_isub dX12_closes_32 k)) ?_
    refine es_put xc_12 dX12_closes_33 fl_X12_91 (by decide) (by decide) (by decide) (cel_503 _ _ _) rfl rfl rfl rfl ?_
    refine es_l (pc' := 37) (ls' := [(0, .ref (w.2.1 + 503)), (1, .int x1)]) (st' := [.ref (w.2.1 + 503)]) (fun _ _ k => e_aload_n dX12_closes_36 0 rfl k) ?_
    refine es_get (v := .ref (w.2.1 + 519)) xc_12 dX12_closes_37 fl_X12_94 (by decide) (by decide) (cel_503 _ _ _) rfl ?_
    refine es_l (pc' := 41) (ls' := [(0, .ref (w.2.1 + 503)), (1, .int x1)]) (st' := [.ref (w.2.1 + 503), .ref (w.2.1 + 519)]) (fun _ _ k => e_aload_n dX12_closes_40 0 rfl k) ?_
    refine es_get (v := .int ((S15.1 503 28) - 1)) xc_12 dX12_closes_41 fl_X12_97 (by decide) (by decide) (cel_503 _ _ _) rfl ?_
    obtain ⟨g18, hf⟩ := xg hf
    refine es_iald (v := .int (S15.1 519 (((S15.1 503 28) - 1).toNatClampNeg))) dX12_closes_44 (by decide) (cel_519 _ _ _) g18 rfl ?_
    refine es_l (pc' := 46) (ls' := [(0, .ref (w.2.1 + 503)), (1, .int x1)]) (st' := [.int 2, .int (S15.1 519 (((S15.1 503 28) - 1).toNatClampNeg))]) (fun _ _ k => e_iconst (v := 2) dX12_closes_45 (by decide) k) ?_
    refine es_br (c := (S15.1 519 (((S15.1 503 28) - 1).toNatClampNeg)) = 2) (tgt := 49) (pf := 60) (st' := []) (fun _ _ a b => e_icmp_ne dX12_closes_46 rfl b a) (fun c19 => ?_) (fun c19 => ?_)
    · rw [if_pos c19] at hf
      refine es_l (pc' := 52) (ls' := [(0, .ref (w.2.1 + 503)), (1, .int x1)]) (st' := [.int 31, .ref (w.2.1 + 503)]) (fun _ _ k => e_aload_n dX12_closes_49 0 rfl (e_bipush (v := 31) dX12_closes_50 (by decide) k)) ?_
      refine es_callVV (as := [.int 31]) (rest := []) hf xc_12 dX12_closes_52 cs_X12_closes_X12_emit ml_X12_278 im_X12_emit se_X12_emit rfl rfl (Nat.le_of_ble_eq_true rfl) (Nat.le_of_ble_eq_true rfl) (by decide) rfl (cel_503 _ _ _) (fun _ e => t_X12_emit N 31 (sI (sI S15 503 28 ((S15.1 503 28) - 1)) 503 26 ((S15.1 503 26) - 1)) _ e) (by decide) (fun S20 hf => ?_)
      refine es_l (pc' := 57) (ls' := [(0, .ref (w.2.1 + 503)), (1, .int x1)]) (st' := [.int ((-1)), .ref (w.2.1 + 503)]) (fun _ _ k => e_aload_n dX12_closes_55 0 rfl (e_iconst (v := (-1)) dX12_closes_56 (by decide) k)) ?_
      refine es_put xc_12 dX12_closes_57 fl_X12_100 (by decide) (by decide) (by decide) (cel_503 _ _ _) rfl rfl rfl rfl ?_
      refine es_sub [] rfl ?_
      exact t_X12_closes_60 N (sI S20 503 29 ((-1))) r hf
    · rw [if_neg c19] at hf
      refine es_sub [] rfl ?_
      exact t_X12_closes_60 N (sI (sI S15 503 28 ((S15.1 503 28) - 1)) 503 26 ((S15.1 503 26) - 1)) r hf
def f_X12_expression_148 (N : Nat)  (x2 : Int32) (S : xS) : Option xr :=
  xcV (f_X12_unwind N x2 0 S) (fun S55 =>
  if (S55.1 503 28) ≤ x2 then
    some (.inl (some (.inl 1)), S55)
  else
    xcI (f_X12_wrong N S55) (fun v59 S58 =>
    if xbo v59 then
    some (.inl (some (.inl v59)), S58)
    else none
    )
  )
set_option maxRecDepth 100000 in
set_option maxHeartbeats 4000000 in
theorem t_X12_expression_148 {l : Launch} {w : xW} {g : Nat → xE} (N : Nat)   (x2 : Int32) (S : xS) (r : xr) (hf : f_X12_expression_148 N  x2 S = some r) : ES l w g M_X12_expression 148 [(0, .ref (w.2.1 + 503)), (2, .int x2)] [] S r := by
  unfold f_X12_expression_148 at hf
  refine es_l (pc' := 151) (ls' := [(0, .ref (w.2.1 + 503)), (2, .int x2)]) (st' := [.int 0, .int x2, .ref (w.2.1 + 503)]) (fun _ _ k => e_aload_n dX12_expression_148 0 rfl (e_iload_n dX12_expression_149 1 rfl (e_iconst (v := 0) dX12_expression_150 (by decide) k))) ?_
  refine es_callVV (as := [.int x2, .int 0]) (rest := []) hf xc_12 dX12_expression_151 cs_X12_expression_X12_unwind ml_X12_271 im_X12_unwind se_X12_unwind rfl rfl (Nat.le_of_ble_eq_true rfl) (Nat.le_of_ble_eq_true rfl) (by decide) rfl (cel_503 _ _ _) (fun _ e => t_X12_unwind N x2 0 S _ e) (by decide) (fun S55 hf => ?_)
  refine es_l (pc' := 155) (ls' := [(0, .ref (w.2.1 + 503)), (2, .int x2)]) (st' := [.ref (w.2.1 + 503)]) (fun _ _ k => e_aload_n dX12_expression_154 0 rfl k) ?_
  refine es_get (v := .int (S55.1 503 28)) xc_12 dX12_expression_155 fl_X12_97 (by decide) (by decide) (cel_503 _ _ _) rfl ?_
  refine es_l (pc' := 159) (ls' := [(0, .ref (w.2.1 + 503)), (2, .int x2)]) (st' := [.int x2, .int (S55.1 503 28)]) (fun _ _ k => e_iload_n dX12_expression_158 1 rfl k) ?_
  refine es_br (c := (S55.1 503 28) ≤ x2) (tgt := 167) (pf := 162) (st' := []) (fun _ _ a b => e_icmp_le dX12_expression_159 rfl a b) (fun c57 => ?_) (fun c57 => ?_)
  · rw [if_pos c57] at hf
    refine es_l (pc' := 168) (ls' := [(0, .ref (w.2.1 + 503)), (2, .int x2)]) (st' := [.int 1]) (fun _ _ k => e_iconst (v := 1) dX12_expression_167 (by decide) k) ?_
    exact es_ireturn (ty := .boolean) dX12_expression_168 rfl rfl hf
  · rw [if_neg c57] at hf
    refine es_l (pc' := 163) (ls' := [(0, .ref (w.2.1 + 503)), (2, .int x2)]) (st' := [.ref (w.2.1 + 503)]) (fun _ _ k => e_aload_n dX12_expression_162 0 rfl k) ?_
    refine es_callVI (as := []) (rest := []) hf xc_12 dX12_expression_163 cs_X12_expression_X12_wrong ml_X12_235 im_X12_wrong se_X12_wrong rfl rfl (Nat.le_of_ble_eq_true rfl) (Nat.le_of_ble_eq_true rfl) (by decide) rfl (cel_503 _ _ _) (fun _ e => t_X12_wrong N  S55 _ e) (by decide) (fun v59 S58 hf => ?_)
    obtain ⟨g60, hf⟩ := xg hf
    exact es_ireturn (ty := .boolean) dX12_expression_166 rfl (xbo_n g60) hf
def f_X12_expression_169 (N : Nat) (k12 : Int32 → Int32 → Int32 → xS → Option xr) (x1 : Int32) (x2 : Int32) (x3 : Int32) (S : xS) : Option xr :=
  k12 x1 x2 x3 S
set_option maxRecDepth 100000 in
set_option maxHeartbeats 4000000 in
theorem t_X12_expression_169 {l : Launch} {w : xW} {g : Nat → xE} (N : Nat) (k12 : Int32 → Int32 → Int32 → xS → Option xr) (hk12 : ∀ (x1 : Int32) (x2 : Int32) (x3 : Int32) (S : xS) (r : xr), k12 x1 x2 x3 S = some r → ES l w g M_X12_expression 12 [(0, .ref (w.2.1 + 503)), (1, .int x1), (2, .int x2), (3, .int x3)] [] S r) (x1 : Int32) (x2 : Int32) (x3 : Int32) (S : xS) (r : xr) (hf : f_X12_expression_169 N k12 x1 x2 x3 S = some r) : ES l w g M_X12_expression 169 [(0, .ref (w.2.1 + 503)), (1, .int x1), (2, .int x2), (3, .int x3)] [] S r := by
  unfold f_X12_expression_169 at hf
  refine es_l (pc' := 12) (ls' := [(0, .ref (w.2.1 + 503)), (1, .int x1), (2, .int x2), (3, .int x3)]) (st' := []) (fun _ _ k => e_goto (tgt := 12) dX12_expression_169 rfl k) ?_
  exact hk12 x1 x2 x3 S r hf
def f_X12_expression_86 (N : Nat) (k12 : Int32 → Int32 → Int32 → xS → Option xr) (x1 : Int32) (x2 : Int32) (s0 : Int32) (S : xS) : Option xr :=
  k12 x1 x2 s0 S
set_option maxRecDepth 100000 in
set_option maxHeartbeats 4000000 in
theorem t_X12_expression_86 {l : Launch} {w : xW} {g : Nat → xE} (N : Nat) (k12 : Int32 → Int32 → Int32 → xS → Option xr) (hk12 : ∀ (x1 : Int32) (x2 : Int32) (x3 : Int32) (S : xS) (r : xr), k12 x1 x2 x3 S = some r → ES l w g M_X12_expression 12 [(0, .ref (w.2.1 + 503)), (1, .int x1), (2, .int x2), (3, .int x3)] [] S r) (x1 : Int32) (x2 : Int32) (s0 : Int32) (S : xS) (r : xr) (hf : f_X12_expression_86 N k12 x1 x2 s0 S = some r) : ES l w g M_X12_expression 86 [(0, .ref (w.2.1 + 503)), (1, .int x1), (2, .int x2)] [.int s0] S r := by
  unfold f_X12_expression_86 at hf
  refine es_l (pc' := 12) (ls' := [(3, .int s0), (0, .ref (w.2.1 + 503)), (1, .int x1), (2, .int x2)]) (st' := []) (fun _ _ k => e_istore_n (ls' := [(3, .int s0), (0, .ref (w.2.1 + 503)), (1, .int x1), (2, .int x2)]) dX12_expression_86 (by decide) rfl (e_goto (tgt := 12) dX12_expression_87 rfl k)) ?_
  refine es_sub [1, 2, 3, 0] rfl ?_
  exact hk12 x1 x2 s0 S r hf
def f_X12_expression_85 (N : Nat) (k12 : Int32 → Int32 → Int32 → xS → Option xr) (x1 : Int32) (x2 : Int32) (S : xS) : Option xr :=
  f_X12_expression_86 N k12 x1 x2 0 S
set_option maxRecDepth 100000 in
set_option maxHeartbeats 4000000 in
theorem t_X12_expression_85 {l : Launch} {w : xW} {g : Nat → xE} (N : Nat) (k12 : Int32 → Int32 → Int32 → xS → Option xr) (hk12 : ∀ (x1 : Int32) (x2 : Int32) (x3 : Int32) (S : xS) (r : xr), k12 x1 x2 x3 S = some r → ES l w g M_X12_expression 12 [(0, .ref (w.2.1 + 503)), (1, .int x1), (2, .int x2), (3, .int x3)] [] S r) (x1 : Int32) (x2 : Int32) (S : xS) (r : xr) (hf : f_X12_expression_85 N k12 x1 x2 S = some r) : ES l w g M_X12_expression 85 [(0, .ref (w.2.1 + 503)), (1, .int x1), (2, .int x2)] [] S r := by
  unfold f_X12_expression_85 at hf
  refine es_l (pc' := 86) (ls' := [(0, .ref (w.2.1 + 503)), (1, .int x1), (2, .int x2)]) (st' := [.int 0]) (fun _ _ k => e_iconst (v := 0) dX12_expression_85 (by decide) k) ?_
  exact t_X12_expression_86 N k12 hk12 x1 x2 0 S r hf
def f_X12_expression_81 (N : Nat) (k12 : Int32 → Int32 → Int32 → xS → Option xr) (x1 : Int32) (x2 : Int32) (S : xS) : Option xr :=
  f_X12_expression_86 N k12 x1 x2 1 S
set_option maxRecDepth 100000 in
set_option maxHeartbeats 4000000 in
theorem t_X12_expression_81 {l : Launch} {w : xW} {g : Nat → xE} (N : Nat) (k12 : Int32 → Int32 → Int32 → xS → Option xr) (hk12 : ∀ (x1 : Int32) (x2 : Int32) (x3 : Int32) (S : xS) (r : xr), k12 x1 x2 x3 S = some r → ES l w g M_X12_expression 12 [(0, .ref (w.2.1 + 503)), (1, .int x1), (2, .int x2), (3, .int x3)] [] S r) (x1 : Int32) (x2 : Int32) (S : xS) (r : xr) (hf : f_X12_expression_81 N k12 x1 x2 S = some r) : ES l w g M_X12_expression 81 [(0, .ref (w.2.1 + 503)), (1, .int x1), (2, .int x2)] [] S r := by
  unfold f_X12_expression_81 at hf
  refine es_l (pc' := 86) (ls' := [(0, .ref (w.2.1 + 503)), (1, .int x1), (2, .int x2)]) (st' := [.int 1]) (fun _ _ k => e_iconst (v := 1) dX12_expression_81 (by decide) (e_goto (tgt := 86) dX12_expression_82 rfl k)) ?_
  exact t_X12_expression_86 N k12 hk12 x1 x2 1 S r hf
def f_X12_expression_57 (N : Nat) (k12 : Int32 → Int32 → Int32 → xS → Option xr) (x1 : Int32) (x2 : Int32) (x4 : Int32) (S : xS) : Option xr :=
  if (S.1 503 28) ≤ x4 then
    f_X12_expression_85 N k12 x1 x2 S
  else
    if xin ((S.1 503 28) - 1) 160 then
    if (S.1 519 (((S.1 503 28) - 1).toNatClampNeg)) = 2 then
      f_X12_expression_81 N k12 x1 x2 S
    else
      f_X12_expression_85 N k12 x1 x2 S
    else none
set_option maxRecDepth 100000 in
set_option maxHeartbeats 4000000 in
theorem t_X12_expression_57 {l : Launch} {w : xW} {g : Nat → xE} (N : Nat) (k12 : Int32 → Int32 → Int32 → xS → Option xr) (hk12 : ∀ (x1 : Int32) (x2 : Int32) (x3 : Int32) (S : xS) (r : xr), k12 x1 x2 x3 S = some r → ES l w g M_X12_expression 12 [(0, .ref (w.2.1 + 503)), (1, .int x1), (2, .int x2), (3, .int x3)] [] S r) (x1 : Int32) (x2 : Int32) (x4 : Int32) (S : xS) (r : xr) (hf : f_X12_expression_57 N k12 x1 x2 x4 S = some r) : ES l w g M_X12_expression 57 [(0, .ref (w.2.1 + 503)), (1, .int x1), (2, .int x2), (4, .int x4)] [] S r := by
  unfold f_X12_expression_57 at hf
  refine es_l (pc' := 58) (ls' := [(0, .ref (w.2.1 + 503)), (1, .int x1), (2, .int x2), (4, .int x4)]) (st' := [.ref (w.2.1 + 503)]) (fun _ _ k => e_aload_n dX12_expression_57 0 rfl k) ?_
  refine es_get (v := .int (S.1 503 28)) xc_12 dX12_expression_58 fl_X12_97 (by decide) (by decide) (cel_503 _ _ _) rfl ?_
  refine es_l (pc' := 63) (ls' := [(0, .ref (w.2.1 + 503)), (1, .int x1), (2, .int x2), (4, .int x4)]) (st' := [.int x4, .int (S.1 503 28)]) (fun _ _ k => e_iload dX12_expression_61 3 rfl k) ?_
  refine es_br (c := (S.1 503 28) ≤ x4) (tgt := 85) (pf := 66) (st' := []) (fun _ _ a b => e_icmp_le dX12_expression_63 rfl a b) (fun c61 => ?_) (fun c61 => ?_)
  · rw [if_pos c61] at hf
    refine es_sub [0, 1, 2] rfl ?_
    exact t_X12_expression_85 N k12 hk12 x1 x2 S r hf
  · rw [if_neg c61] at hf
    refine es_l (pc' := 67) (ls' := [(0, .ref (w.2.1 + 503)), (1, .int x1), (2, .int x2), (4, .int x4)]) (st' := [.ref (w.2.1 + 503)]) (fun _ _ k => e_aload_n dX12_expression_66 0 rfl k) ?_
    refine es_get (v := .ref (w.2.1 + 519)) xc_12 dX12_expression_67 fl_X12_94 (by decide) (by decide) (cel_503 _ _ _) rfl ?_
    refine es_l (pc' := 71) (ls' := [(0, .ref (w.2.1 + 503)), (1, .int x1), (2, .int x2), (4, .int x4)]) (st' := [.ref (w.2.1 + 503), .ref (w.2.1 + 519)]) (fun _ _ k => e_aload_n dX12_expression_70 0 rfl k) ?_
    refine es_get (v := .int (S.1 503 28)) xc_12 dX12_expression_71 fl_X12_97 (by decide) (by decide) (cel_503 _ _ _) rfl ?_
    refine es_l (pc' := 76) (ls' := [(0, .ref (w.2.1 + 503)), (1, .int x1), (2, .int x2), (4, .int x4)]) (st' := [.int ((S.1 503 28) - 1), .ref (w.2.1 + 519)]) (fun _ _ k => e_iconst (v := 1) dX12_expression_74 (by decide) (e_isub dX12_expression_75 k)) ?_
    obtain ⟨g62, hf⟩ := xg hf
    refine es_iald (v := .int (S.1 519 (((S.1 503 28) - 1).toNatClampNeg))) dX12_expression_76 (by decide) (cel_519 _ _ _) g62 rfl ?_
    refine es_l (pc' := 78) (ls' := [(0, .ref (w.2.1 + 503)), (1, .int x1), (2, .int x2), (4, .int x4)]) (st' := [.int 2, .int (S.1 519 (((S.1 503 28) - 1).toNatClampNeg))]) (fun _ _ k => e_iconst (v := 2) dX12_expression_77 (by decide) k) ?_
    refine es_br (c := (S.1 519 (((S.1 503 28) - 1).toNatClampNeg)) = 2) (tgt := 81) (pf := 85) (st' := []) (fun _ _ a b => e_icmp_ne dX12_expression_78 rfl b a) (fun c63 => ?_) (fun c63 => ?_)
    · rw [if_pos c63] at hf
      refine es_sub [0, 1, 2] rfl ?_
      exact t_X12_expression_81 N k12 hk12 x1 x2 S r hf
    · rw [if_neg c63] at hf
      refine es_sub [0, 1, 2] rfl ?_
      exact t_X12_expression_85 N k12 hk12 x1 x2 S r hf
def f_X12_expression_12 (N : Nat)  : Nat → Int32 → Int32 → Int32 → xS → Option xr
  | 0, _, _, _, _ => none
  | n + 1, x1, x2, x3, S =>
  if x3 = 0 then
    xcI (f_X12_operation N S) (fun v66 S65 =>
    if v66 ≤ 0 then
      xcI (f_X12_isSign N 41 S65) (fun v69 S68 =>
      if v69 = 0 then
        f_X12_expression_148 N x2 S68
      else
        xcI (f_X12_closes N x2 S68) (fun v72 S71 =>
        if v72 = 0 then
          f_X12_expression_148 N x2 S71
        else
          f_X12_expression_169 N (f_X12_expression_12 N n) x1 x2 x3 (sI S71 503 20 ((S71.1 503 20) + 1))
        )
      )
    else
      xcI (f_X12_binary N x2 v66 S65) (fun v75 S74 =>
      if v75 = 0 then
        some (.inl (some (.inl 0)), S74)
      else
        f_X12_expression_169 N (f_X12_expression_12 N n) x1 x2 1 S74
      )
    )
  else
    xcI (f_X12_operand N x2 x1 S) (fun v78 S77 =>
    if v78 = 0 then
      some (.inl (some (.inl 0)), S77)
    else
      if (S77.1 503 28) ≤ (S.1 503 28) then
        f_X12_expression_57 N (f_X12_expression_12 N n) x1 x2 (S.1 503 28) S77
      else
        if (S77.1 503 25) = (S.1 503 25) then
          f_X12_expression_81 N (f_X12_expression_12 N n) x1 x2 S77
        else
          f_X12_expression_57 N (f_X12_expression_12 N n) x1 x2 (S.1 503 28) S77
    )
set_option maxRecDepth 100000 in
set_option maxHeartbeats 4000000 in
theorem t_X12_expression_12 {l : Launch} {w : xW} {g : Nat → xE} (N : Nat)   : ∀ (n : Nat) (x1 : Int32) (x2 : Int32) (x3 : Int32) (S : xS) (r : xr), f_X12_expression_12 N  n x1 x2 x3 S = some r → ES l w g M_X12_expression 12 [(0, .ref (w.2.1 + 503)), (1, .int x1), (2, .int x2), (3, .int x3)] [] S r := by
  intro n
  induction n with
  | zero => intro x1 x2 x3 S r hf; cases hf
  | succ n ih =>
    intro x1 x2 x3 S r hf
    rw [f_X12_expression_12.eq_2] at hf
    refine es_l (pc' := 13) (ls' := [(0, .ref (w.2.1 + 503)), (1, .int x1), (2, .int x2), (3, .int x3)]) (st' := [.int x3]) (fun _ _ k => e_iload_n dX12_expression_12 3 rfl k) ?_
    refine es_br (c := x3 = 0) (tgt := 90) (pf := 16) (st' := []) (fun _ _ a b => e_if_eq dX12_expression_13 rfl a b) (fun c64 => ?_) (fun c64 => ?_)
    · rw [if_pos c64] at hf
      refine es_l (pc' := 91) (ls' := [(0, .ref (w.2.1 + 503)), (1, .int x1), (2, .int x2), (3, .int x3)]) (st' := [.ref (w.2.1 + 503)]) (fun _ _ k => e_aload_n dX12_expression_90 0 rfl k) ?_
      refine es_callVI (as := []) (rest := []) hf xc_12 dX12_expression_91 cs_X12_expression_X12_operation ml_X12_261 im_X12_operation se_X12_operation rfl rfl (Nat.le_of_ble_eq_true rfl) (Nat.le_of_ble_eq_true rfl) (by decide) rfl (cel_503 _ _ _) (fun _ e => t_X12_operation N  S _ e) (by decide) (fun v66 S65 hf => ?_)
      refine es_l (pc' := 98) (ls' := [(4, .int v66), (0, .ref (w.2.1 + 503)), (1, .int x1), (2, .int x2), (3, .int x3)]) (st' := [.int v66]) (fun _ _ k => e_istore (ls' := [(4, .int v66), (0, .ref (w.2.1 + 503)), (1, .int x1), (2, .int x2), (3, .int x3)]) dX12_expression_94 (by decide) rfl (e_iload dX12_expression_96 0 rfl k)) ?_
      refine es_br (c := v66 ≤ 0) (tgt := 118) (pf := 101) (st' := []) (fun _ _ a b => e_if_le dX12_expression_98 rfl a b) (fun c67 => ?_) (fun c67 => ?_)
      · rw [if_pos c67] at hf
        refine es_l (pc' := 121) (ls' := [(4, .int v66), (0, .ref (w.2.1 + 503)), (1, .int x1), (2, .int x2), (3, .int x3)]) (st' := [.int 41, .ref (w.2.1 + 503)]) (fun _ _ k => e_aload_n dX12_expression_118 1 rfl (e_bipush (v := 41) dX12_expression_119 (by decide) k)) ?_
        refine es_callVI (as := [.int 41]) (rest := []) hf xc_12 dX12_expression_121 cs_X12_expression_X12_isSign ml_X12_232 im_X12_isSign se_X12_isSign rfl rfl (Nat.le_of_ble_eq_true rfl) (Nat.le_of_ble_eq_true rfl) (by decide) rfl (cel_503 _ _ _) (fun _ e => t_X12_isSign N 41 S65 _ e) (by decide) (fun v69 S68 hf => ?_)
        refine es_br (c := v69 = 0) (tgt := 148) (pf := 127) (st' := []) (fun _ _ a b => e_if_eq dX12_expression_124 rfl a b) (fun c70 => ?_) (fun c70 => ?_)
        · rw [if_pos c70] at hf
          refine es_sub [1, 3] rfl ?_
          exact t_X12_expression_148 N x2 S68 r hf
        · rw [if_neg c70] at hf
          refine es_l (pc' := 129) (ls' := [(4, .int v66), (0, .ref (w.2.1 + 503)), (1, .int x1), (2, .int x2), (3, .int x3)]) (st' := [.int x2, .ref (w.2.1 + 503)]) (fun _ _ k => e_aload_n dX12_expression_127 1 rfl (e_iload_n dX12_expression_128 3 rfl k)) ?_
          refine es_callVI (as := [.int x2]) (rest := []) hf xc_12 dX12_expression_129 cs_X12_expression_X12_closes ml_X12_268 im_X12_closes se_X12_closes rfl rfl (Nat.le_of_ble_eq_true rfl) (Nat.le_of_ble_eq_true rfl) (by decide) rfl (cel_503 _ _ _) (fun _ e => t_X12_closes N x2 S68 _ e) (by decide) (fun v72 S71 hf => ?_)
          refine es_br (c := v72 = 0) (tgt := 148) (pf := 135) (st' := []) (fun _ _ a b => e_if_eq dX12_expression_132 rfl a b) (fun c73 => ?_) (fun c73 => ?_)
          · rw [if_pos c73] at hf
            refine es_sub [1, 3] rfl ?_
            exact t_X12_expression_148 N x2 S71 r hf
          · rw [if_neg c73] at hf
            refine es_l (pc' := 137) (ls' := [(4, .int v66), (0, .ref (w.2.1 + 503)), (1, .int x1), (2, .int x2), (3, .int x3)]) (st' := [.ref (w.2.1 + 503), .ref (w.2.1 + 503)]) (fun _ _ k => e_aload_n dX12_expression_135 1 rfl (e_dup dX12_expression_136 rfl k)) ?_
            refine es_get (v := .int (S71.1 503 20)) xc_12 dX12_expression_137 fl_X12_72 (by decide) (by decide) (cel_503 _ _ _) rfl ?_
            refine es_l (pc' := 142) (ls' := [(4, .int v66), (0, .ref (w.2.1 + 503)), (1, .int x1), (2, .int x2), (3, .int x3)]) (st' := [.int ((S71.1 503 20) + 1), .ref (w.2.1 + 503)]) (fun _ _ k => e_iconst (v := 1) dX12_expression_140 (by decide) (e_iadd dX12_expression_141 k)) ?_
            refine es_put xc_12 dX12_expression_142 fl_X12_72 (by decide) (by decide) (by decide) (cel_503 _ _ _) rfl rfl rfl rfl ?_
            refine es_l (pc' := 169) (ls' := [(4, .int v66), (0, .ref (w.2.1 + 503)), (1, .int x1), (2, .int x2), (3, .int x3)]) (st' := []) (fun _ _ k => e_goto (tgt := 169) dX12_expression_145 rfl k) ?_
            refine es_sub [1, 2, 3, 4] rfl ?_
            exact t_X12_expression_169 N (f_X12_expression_12 N n) ih x1 x2 x3 (sI S71 503 20 ((S71.1 503 20) + 1)) r hf
      · rw [if_neg c67] at hf
        refine es_l (pc' := 105) (ls' := [(4, .int v66), (0, .ref (w.2.1 + 503)), (1, .int x1), (2, .int x2), (3, .int x3)]) (st' := [.int v66, .int x2, .ref (w.2.1 + 503)]) (fun _ _ k => e_aload_n dX12_expression_101 1 rfl (e_iload_n dX12_expression_102 3 rfl (e_iload dX12_expression_103 0 rfl k))) ?_
        refine es_callVI (as := [.int x2, .int v66]) (rest := []) hf xc_12 dX12_expression_105 cs_X12_expression_X12_binary ml_X12_265 im_X12_binary se_X12_binary rfl rfl (Nat.le_of_ble_eq_true rfl) (Nat.le_of_ble_eq_true rfl) (by decide) rfl (cel_503 _ _ _) (fun _ e => t_X12_binary N x2 v66 S65 _ e) (by decide) (fun v75 S74 hf => ?_)
        refine es_br (c := v75 = 0) (tgt := 111) (pf := 113) (st' := []) (fun _ _ a b => e_if_ne dX12_expression_108 rfl b a) (fun c76 => ?_) (fun c76 => ?_)
        · rw [if_pos c76] at hf
          refine es_l (pc' := 112) (ls' := [(4, .int v66), (0, .ref (w.2.1 + 503)), (1, .int x1), (2, .int x2), (3, .int x3)]) (st' := [.int 0]) (fun _ _ k => e_iconst (v := 0) dX12_expression_111 (by decide) k) ?_
          exact es_ireturn (ty := .boolean) dX12_expression_112 rfl rfl hf
        · rw [if_neg c76] at hf
          refine es_l (pc' := 169) (ls' := [(3, .int 1), (4, .int v66), (0, .ref (w.2.1 + 503)), (1, .int x1), (2, .int x2)]) (st' := []) (fun _ _ k => e_iconst (v := 1) dX12_expression_113 (by decide) (e_istore_n (ls' := [(3, .int 1), (4, .int v66), (0, .ref (w.2.1 + 503)), (1, .int x1), (2, .int x2)]) dX12_expression_114 (by decide) rfl (e_goto (tgt := 169) dX12_expression_115 rfl k))) ?_
          refine es_sub [2, 3, 4, 0] rfl ?_
          exact t_X12_expression_169 N (f_X12_expression_12 N n) ih x1 x2 1 S74 r hf
    · rw [if_neg c64] at hf
      refine es_l (pc' := 17) (ls' := [(0, .ref (w.2.1 + 503)), (1, .int x1), (2, .int x2), (3, .int x3)]) (st' := [.ref (w.2.1 + 503)]) (fun _ _ k => e_aload_n dX12_expression_16 0 rfl k) ?_
      refine es_get (v := .int (S.1 503 28)) xc_12 dX12_expression_17 fl_X12_97 (by decide) (by decide) (cel_503 _ _ _) rfl ?_
      refine es_l (pc' := 23) (ls' := [(4, .int (S.1 503 28)), (0, .ref (w.2.1 + 503)), (1, .int x1), (2, .int x2), (3, .int x3)]) (st' := [.ref (w.2.1 + 503)]) (fun _ _ k => e_istore (ls' := [(4, .int (S.1 503 28)), (0, .ref (w.2.1 + 503)), (1, .int x1), (2, .int x2), (3, .int x3)]) dX12_expression_20 (by decide) rfl (e_aload_n dX12_expression_22 1 rfl k)) ?_
      refine es_get (v := .int (S.1 503 25)) xc_12 dX12_expression_23 fl_X12_88 (by decide) (by decide) (cel_503 _ _ _) rfl ?_
      refine es_l (pc' := 31) (ls' := [(5, .int (S.1 503 25)), (4, .int (S.1 503 28)), (0, .ref (w.2.1 + 503)), (1, .int x1), (2, .int x2), (3, .int x3)]) (st' := [.int x1, .int x2, .ref (w.2.1 + 503)]) (fun _ _ k => e_istore (ls' := [(5, .int (S.1 503 25)), (4, .int (S.1 503 28)), (0, .ref (w.2.1 + 503)), (1, .int x1), (2, .int x2), (3, .int x3)]) dX12_expression_26 (by decide) rfl (e_aload_n dX12_expression_28 2 rfl (e_iload_n dX12_expression_29 4 rfl (e_iload_n dX12_expression_30 3 rfl k)))) ?_
      refine es_callVI (as := [.int x2, .int x1]) (rest := []) hf xc_12 dX12_expression_31 cs_X12_expression_X12_operand ml_X12_257 im_X12_operand se_X12_operand rfl rfl (Nat.le_of_ble_eq_true rfl) (Nat.le_of_ble_eq_true rfl) (by decide) rfl (cel_503 _ _ _) (fun _ e => t_X12_operand N x2 x1 S _ e) (by decide) (fun v78 S77 hf => ?_)
      refine es_br (c := v78 = 0) (tgt := 37) (pf := 39) (st' := []) (fun _ _ a b => e_if_ne dX12_expression_34 rfl b a) (fun c79 => ?_) (fun c79 => ?_)
      · rw [if_pos c79] at hf
        refine es_l (pc' := 38) (ls' := [(5, .int (S.1 503 25)), (4, .int (S.1 503 28)), (0, .ref (w.2.1 + 503)), (1, .int x1), (2, .int x2), (3, .int x3)]) (st' := [.int 0]) (fun _ _ k => e_iconst (v := 0) dX12_expression_37 (by decide) k) ?_
        exact es_ireturn (ty := .boolean) dX12_expression_38 rfl rfl hf
      · rw [if_neg c79] at hf
        refine es_l (pc' := 40) (ls' := [(5, .int (S.1 503 25)), (4, .int (S.1 503 28)), (0, .ref (w.2.1 + 503)), (1, .int x1), (2, .int x2), (3, .int x3)]) (st' := [.ref (w.2.1 + 503)]) (fun _ _ k => e_aload_n dX12_expression_39 2 rfl k) ?_
        refine es_get (v := .int (S77.1 503 28)) xc_12 dX12_expression_40 fl_X12_97 (by decide) (by decide) (cel_503 _ _ _) rfl ?_
        refine es_l (pc' := 45) (ls' := [(5, .int (S.1 503 25)), (4, .int (S.1 503 28)), (0, .ref (w.2.1 + 503)), (1, .int x1), (2, .int x2), (3, .int x3)]) (st' := [.int (S.1 503 28), .int (S77.1 503 28)]) (fun _ _ k => e_iload dX12_expression_43 1 rfl k) ?_
        refine es_br (c := (S77.1 503 28) ≤ (S.1 503 28)) (tgt := 57) (pf := 48) (st' := []) (fun _ _ a b => e_icmp_le dX12_expression_45 rfl a b) (fun c80 => ?_) (fun c80 => ?_)
        · rw [if_pos c80] at hf
          refine es_sub [2, 3, 4, 1] rfl ?_
          exact t_X12_expression_57 N (f_X12_expression_12 N n) ih x1 x2 (S.1 503 28) S77 r hf
        · rw [if_neg c80] at hf
          refine es_l (pc' := 49) (ls' := [(5, .int (S.1 503 25)), (4, .int (S.1 503 28)), (0, .ref (w.2.1 + 503)), (1, .int x1), (2, .int x2), (3, .int x3)]) (st' := [.ref (w.2.1 + 503)]) (fun _ _ k => e_aload_n dX12_expression_48 2 rfl k) ?_
          refine es_get (v := .int (S77.1 503 25)) xc_12 dX12_expression_49 fl_X12_88 (by decide) (by decide) (cel_503 _ _ _) rfl ?_
          refine es_l (pc' := 54) (ls' := [(5, .int (S.1 503 25)), (4, .int (S.1 503 28)), (0, .ref (w.2.1 + 503)), (1, .int x1), (2, .int x2), (3, .int x3)]) (st' := [.int (S.1 503 25), .int (S77.1 503 25)]) (fun _ _ k => e_iload dX12_expression_52 0 rfl k) ?_
          refine es_br (c := (S77.1 503 25) = (S.1 503 25)) (tgt := 81) (pf := 57) (st' := []) (fun _ _ a b => e_icmp_eq dX12_expression_54 rfl a b) (fun c81 => ?_) (fun c81 => ?_)
          · rw [if_pos c81] at hf
            refine es_sub [2, 3, 4] rfl ?_
            exact t_X12_expression_81 N (f_X12_expression_12 N n) ih x1 x2 S77 r hf
          · rw [if_neg c81] at hf
            refine es_sub [2, 3, 4, 1] rfl ?_
            exact t_X12_expression_57 N (f_X12_expression_12 N n) ih x1 x2 (S.1 503 28) S77 r hf
def f_X12_expression (N : Nat) (x1 : Int32) (S : xS) : Option xr :=
  f_X12_expression_12 N N x1 (S.1 503 28) 1 (sI S 503 29 x1)
set_option maxRecDepth 100000 in
set_option maxHeartbeats 4000000 in
theorem t_X12_expression {l : Launch} {w : xW} {g : Nat → xE} (N : Nat) (x1 : Int32) (S : xS) (r : xr) (hf : f_X12_expression N x1 S = some r) : ES l w g M_X12_expression 0 (lv_args 0 [.ref (w.2.1 + 503), .int x1]) [] S r := by
  show ES l w g M_X12_expression 0 [(0, .ref (w.2.1 + 503)), (1, .int x1)] [] S r
  unfold f_X12_expression at hf
  refine es_l (pc' := 1) (ls' := [(0, .ref (w.2.1 + 503)), (1, .int x1)]) (st' := [.ref (w.2.1 + 503)]) (fun _ _ k => e_aload_n dX12_expression_0 0 rfl k) ?_
  refine es_get (v := .int (S.1 503 28)) xc_12 dX12_expression_1 fl_X12_97 (by decide) (by decide) (cel_503 _ _ _) rfl ?_
  refine es_l (pc' := 7) (ls' := [(2, .int (S.1 503 28)), (0, .ref (w.2.1 + 503)), (1, .int x1)]) (st' := [.int x1, .ref (w.2.1 + 503)]) (fun _ _ k => e_istore_n (ls' := [(2, .int (S.1 503 28)), (0, .ref (w.2.1 + 503)), (1, .int x1)]) dX12_expression_4 (by decide) rfl (e_aload_n dX12_expression_5 1 rfl (e_iload_n dX12_expression_6 2 rfl k))) ?_
  refine es_put xc_12 dX12_expression_7 fl_X12_100 (by decide) (by decide) (by decide) (cel_503 _ _ _) rfl rfl rfl rfl ?_
  refine es_l (pc' := 12) (ls' := [(3, .int 1), (2, .int (S.1 503 28)), (0, .ref (w.2.1 + 503)), (1, .int x1)]) (st' := []) (fun _ _ k => e_iconst (v := 1) dX12_expression_10 (by decide) (e_istore_n (ls' := [(3, .int 1), (2, .int (S.1 503 28)), (0, .ref (w.2.1 + 503)), (1, .int x1)]) dX12_expression_11 (by decide) rfl k)) ?_
  refine es_sub [2, 3, 1, 0] rfl ?_
  exact t_X12_expression_12 N N x1 (S.1 503 28) 1 (sI S 503 29 x1) r hf
def f_X12_measured (N : Nat) (x1 : Int32) (S : xS) : Option xr :=
  xcV (f_X12_emit N 0 S) (fun S7 =>
  xcI (f_X12_expression N x1 S7) (fun v10 S9 =>
  if v10 = 0 then
    some (.inl (some (.inl 0)), S9)
  else
    if xin (S.1 503 25) 3000 then
    some (.inl (some (.inl 1)), sI S9 518 ((S.1 503 25).toNatClampNeg) (((S9.1 503 25) - (S.1 503 25)) - 1))
    else none
  )
  )
set_option maxRecDepth 100000 in
set_option maxHeartbeats 4000000 in
theorem t_X12_measured {l : Launch} {w : xW} {g : Nat → xE} (N : Nat) (x1 : Int32) (S : xS) (r : xr) (hf : f_X12_measured N x1 S = some r) : ES l w g M_X12_measured 0 (lv_args 0 [.ref (w.2.1 + 503), .int x1]) [] S r := by
  show ES l w g M_X12_measured 0 [(0, .ref (w.2.1 + 503)), (1, .int x1)] [] S r
  unfold f_X12_measured at hf
  refine es_l (pc' := 1) (ls' := [(0, .ref (w.2.1 + 503)), (1, .int x1)]) (st' := [.ref (w.2.1 + 503)]) (fun _ _ k => e_aload_n dX12_measured_0 0 rfl k) ?_
  refine es_get (v := .int (S.1 503 25)) xc_12 dX12_measured_1 fl_X12_88 (by decide) (by decide) (cel_503 _ _ _) rfl ?_
  refine es_l (pc' := 7) (ls' := [(2, .int (S.1 503 25)), (0, .ref (w.2.1 + 503)), (1, .int x1)]) (st' := [.int 0, .ref (w.2.1 + 503)]) (fun _ _ k => e_istore_n (ls' := [(2, .int (S.1 503 25)), (0, .ref (w.2.1 + 503)), (1, .int x1)]) dX12_measured_4 (by decide) rfl (e_aload_n dX12_measured_5 1 rfl (e_iconst (v := 0) dX12_measured_6 (by decide) k))) ?_
  refine es_callVV (as := [.int 0]) (rest := []) hf xc_12 dX12_measured_7 cs_X12_measured_X12_emit ml_X12_278 im_X12_emit se_X12_emit rfl rfl (Nat.le_of_ble_eq_true rfl) (Nat.le_of_ble_eq_true rfl) (by decide) rfl (cel_503 _ _ _) (fun _ e => t_X12_emit N 0 S _ e) (by decide) (fun S7 hf => ?_)
  refine es_l (pc' := 12) (ls' := [(2, .int (S.1 503 25)), (0, .ref (w.2.1 + 503)), (1, .int x1)]) (st' := [.int x1, .ref (w.2.1 + 503)]) (fun _ _ k => e_aload_n dX12_measured_10 1 rfl (e_iload_n dX12_measured_11 2 rfl k)) ?_
  refine es_callVI (as := [.int x1]) (rest := []) hf xc_12 dX12_measured_12 cs_X12_measured_X12_expression ml_X12_308 im_X12_expression se_X12_expression rfl rfl (Nat.le_of_ble_eq_true rfl) (Nat.le_of_ble_eq_true rfl) (by decide) rfl (cel_503 _ _ _) (fun _ e => t_X12_expression N x1 S7 _ e) (by decide) (fun v10 S9 hf => ?_)
  refine es_br (c := v10 = 0) (tgt := 18) (pf := 20) (st' := []) (fun _ _ a b => e_if_ne dX12_measured_15 rfl b a) (fun c11 => ?_) (fun c11 => ?_)
  · rw [if_pos c11] at hf
    refine es_l (pc' := 19) (ls' := [(2, .int (S.1 503 25)), (0, .ref (w.2.1 + 503)), (1, .int x1)]) (st' := [.int 0]) (fun _ _ k => e_iconst (v := 0) dX12_measured_18 (by decide) k) ?_
    exact es_ireturn (ty := .boolean) dX12_measured_19 rfl rfl hf
  · rw [if_neg c11] at hf
    refine es_l (pc' := 21) (ls' := [(2, .int (S.1 503 25)), (0, .ref (w.2.1 + 503)), (1, .int x1)]) (st' := [.ref (w.2.1 + 503)]) (fun _ _ k => e_aload_n dX12_measured_20 1 rfl k) ?_
    refine es_get (v := .ref (w.2.1 + 518)) xc_12 dX12_measured_21 fl_X12_85 (by decide) (by decide) (cel_503 _ _ _) rfl ?_
    refine es_l (pc' := 26) (ls' := [(2, .int (S.1 503 25)), (0, .ref (w.2.1 + 503)), (1, .int x1)]) (st' := [.ref (w.2.1 + 503), .int (S.1 503 25), .ref (w.2.1 + 518)]) (fun _ _ k => e_iload_n dX12_measured_24 0 rfl (e_aload_n dX12_measured_25 1 rfl k)) ?_
    refine es_get (v := .int (S9.1 503 25)) xc_12 dX12_measured_26 fl_X12_88 (by decide) (by decide) (cel_503 _ _ _) rfl ?_
    refine es_l (pc' := 33) (ls' := [(2, .int (S.1 503 25)), (0, .ref (w.2.1 + 503)), (1, .int x1)]) (st' := [.int (((S9.1 503 25) - (S.1 503 25)) - 1), .int (S.1 503 25), .ref (w.2.1 + 518)]) (fun _ _ k => e_iload_n dX12_measured_29 0 rfl (e_isub dX12_measured_30 (e_iconst (v := 1) dX12_measured_31 (by decide) (e_isub dX12_measured_32 k)))) ?_
    obtain ⟨g12, hf⟩ := xg hf
    refine es_iast dX12_measured_33 (by decide) (cel_518 _) g12 ?_
    refine es_l (pc' := 35) (ls' := [(2, .int (S.1 503 25)), (0, .ref (w.2.1 + 503)), (1, .int x1)]) (st' := [.int 1]) (fun _ _ k => e_iconst (v := 1) dX12_measured_34 (by decide) k) ?_
    exact es_ireturn (ty := .boolean) dX12_measured_35 rfl rfl hf
def f_X12_whereOf (N : Nat) (x1 : Int32) (S : xS) : Option xr :=
  xcI (f_X12_isWord N 3 S) (fun v10 S9 =>
  if v10 = 0 then
    xcV (f_X12_emit N 0 S9) (fun S12 =>
    some (.inl (some (.inl 1)), S12)
    )
  else
    xcI (f_X12_measured N x1 (sI S9 503 20 ((S9.1 503 20) + 1))) (fun v15 S14 =>
    if xbo v15 then
    some (.inl (some (.inl v15)), S14)
    else none
    )
  )
set_option maxRecDepth 100000 in
set_option maxHeartbeats 4000000 in
theorem t_X12_whereOf {l : Launch} {w : xW} {g : Nat → xE} (N : Nat) (x1 : Int32) (S : xS) (r : xr) (hf : f_X12_whereOf N x1 S = some r) : ES l w g M_X12_whereOf 0 (lv_args 0 [.ref (w.2.1 + 503), .int x1]) [] S r := by
  show ES l w g M_X12_whereOf 0 [(0, .ref (w.2.1 + 503)), (1, .int x1)] [] S r
  unfold f_X12_whereOf at hf
  refine es_l (pc' := 2) (ls' := [(0, .ref (w.2.1 + 503)), (1, .int x1)]) (st' := [.int 3, .ref (w.2.1 + 503)]) (fun _ _ k => e_aload_n dX12_whereOf_0 0 rfl (e_iconst (v := 3) dX12_whereOf_1 (by decide) k)) ?_
  refine es_callVI (as := [.int 3]) (rest := []) hf xc_12 dX12_whereOf_2 cs_X12_whereOf_X12_isWord ml_X12_239 im_X12_isWord se_X12_isWord rfl rfl (Nat.le_of_ble_eq_true rfl) (Nat.le_of_ble_eq_true rfl) (by decide) rfl (cel_503 _ _ _) (fun _ e => t_X12_isWord N 3 S _ e) (by decide) (fun v10 S9 hf => ?_)
  refine es_br (c := v10 = 0) (tgt := 24) (pf := 8) (st' := []) (fun _ _ a b => e_if_eq dX12_whereOf_5 rfl a b) (fun c11 => ?_) (fun c11 => ?_)
  · rw [if_pos c11] at hf
    refine es_l (pc' := 26) (ls' := [(0, .ref (w.2.1 + 503)), (1, .int x1)]) (st' := [.int 0, .ref (w.2.1 + 503)]) (fun _ _ k => e_aload_n dX12_whereOf_24 0 rfl (e_iconst (v := 0) dX12_whereOf_25 (by decide) k)) ?_
    refine es_callVV (as := [.int 0]) (rest := []) hf xc_12 dX12_whereOf_26 cs_X12_whereOf_X12_emit ml_X12_278 im_X12_emit se_X12_emit rfl rfl (Nat.le_of_ble_eq_true rfl) (Nat.le_of_ble_eq_true rfl) (by decide) rfl (cel_503 _ _ _) (fun _ e => t_X12_emit N 0 S9 _ e) (by decide) (fun S12 hf => ?_)
    refine es_l (pc' := 30) (ls' := [(0, .ref (w.2.1 + 503)), (1, .int x1)]) (st' := [.int 1]) (fun _ _ k => e_iconst (v := 1) dX12_whereOf_29 (by decide) k) ?_
    exact es_ireturn (ty := .boolean) dX12_whereOf_30 rfl rfl hf
  · rw [if_neg c11] at hf
    refine es_l (pc' := 10) (ls' := [(0, .ref (w.2.1 + 503)), (1, .int x1)]) (st' := [.ref (w.2.1 + 503), .ref (w.2.1 + 503)]) (fun _ _ k => e_aload_n dX12_whereOf_8 0 rfl (e_dup dX12_whereOf_9 rfl k)) ?_
    refine es_get (v := .int (S9.1 503 20)) xc_12 dX12_whereOf_10 fl_X12_72 (by decide) (by decide) (cel_503 _ _ _) rfl ?_
    refine es_l (pc' := 15) (ls' := [(0, .ref (w.2.1 + 503)), (1, .int x1)]) (st' := [.int ((S9.1 503 20) + 1), .ref (w.2.1 + 503)]) (fun _ _ k => e_iconst (v := 1) dX12_whereOf_13 (by decide) (e_iadd dX12_whereOf_14 k)) ?_
    refine es_put xc_12 dX12_whereOf_15 fl_X12_72 (by decide) (by decide) (by decide) (cel_503 _ _ _) rfl rfl rfl rfl ?_
    refine es_l (pc' := 20) (ls' := [(0, .ref (w.2.1 + 503)), (1, .int x1)]) (st' := [.int x1, .ref (w.2.1 + 503)]) (fun _ _ k => e_aload_n dX12_whereOf_18 0 rfl (e_iload_n dX12_whereOf_19 1 rfl k)) ?_
    refine es_callVI (as := [.int x1]) (rest := []) hf xc_12 dX12_whereOf_20 cs_X12_whereOf_X12_measured ml_X12_311 im_X12_measured se_X12_measured rfl rfl (Nat.le_of_ble_eq_true rfl) (Nat.le_of_ble_eq_true rfl) (by decide) rfl (cel_503 _ _ _) (fun _ e => t_X12_measured N x1 (sI S9 503 20 ((S9.1 503 20) + 1)) _ e) (by decide) (fun v15 S14 hf => ?_)
    obtain ⟨g16, hf⟩ := xg hf
    exact es_ireturn (ty := .boolean) dX12_whereOf_23 rfl (xbo_n g16) hf
def f_X12_inline (N : Nat)  (S : xS) : Option xr :=
  xcV (f_X12_emit N 112 S) (fun S6 =>
  xcI (f_X12_measured N ((-1)) S6) (fun v9 S8 =>
  if xbo v9 then
  some (.inl (some (.inl v9)), S8)
  else none
  )
  )
set_option maxRecDepth 100000 in
set_option maxHeartbeats 4000000 in
theorem t_X12_inline {l : Launch} {w : xW} {g : Nat → xE} (N : Nat)  (S : xS) (r : xr) (hf : f_X12_inline N  S = some r) : ES l w g M_X12_inline 0 (lv_args 0 [.ref (w.2.1 + 503)]) [] S r := by
  show ES l w g M_X12_inline 0 [(0, .ref (w.2.1 + 503))] [] S r
  unfold f_X12_inline at hf
  refine es_l (pc' := 3) (ls' := [(0, .ref (w.2.1 + 503))]) (st' := [.int 112, .ref (w.2.1 + 503)]) (fun _ _ k => e_aload_n dX12_inline_0 0 rfl (e_bipush (v := 112) dX12_inline_1 (by decide) k)) ?_
  refine es_callVV (as := [.int 112]) (rest := []) hf xc_12 dX12_inline_3 cs_X12_inline_X12_emit ml_X12_278 im_X12_emit se_X12_emit rfl rfl (Nat.le_of_ble_eq_true rfl) (Nat.le_of_ble_eq_true rfl) (by decide) rfl (cel_503 _ _ _) (fun _ e => t_X12_emit N 112 S _ e) (by decide) (fun S6 hf => ?_)
  refine es_l (pc' := 8) (ls' := [(0, .ref (w.2.1 + 503))]) (st' := [.int ((-1)), .ref (w.2.1 + 503)]) (fun _ _ k => e_aload_n dX12_inline_6 0 rfl (e_iconst (v := (-1)) dX12_inline_7 (by decide) k)) ?_
  refine es_callVI (as := [.int ((-1))]) (rest := []) hf xc_12 dX12_inline_8 cs_X12_inline_X12_measured ml_X12_311 im_X12_measured se_X12_measured rfl rfl (Nat.le_of_ble_eq_true rfl) (Nat.le_of_ble_eq_true rfl) (by decide) rfl (cel_503 _ _ _) (fun _ e => t_X12_measured N ((-1)) S6 _ e) (by decide) (fun v9 S8 hf => ?_)
  obtain ⟨g10, hf⟩ := xg hf
  exact es_ireturn (ty := .boolean) dX12_inline_11 rfl (xbo_n g10) hf
def f_X12_newKind_64 (N : Nat)   (S : xS) : Option xr :=
  xcI (f_X12_wrong N S) (fun v102 S101 =>
  if xbo v102 then
  some (.inl (some (.inl v102)), S101)
  else none
  )
set_option maxRecDepth 100000 in
set_option maxHeartbeats 4000000 in
theorem t_X12_newKind_64 {l : Launch} {w : xW} {g : Nat → xE} (N : Nat)    (S : xS) (r : xr) (hf : f_X12_newKind_64 N   S = some r) : ES l w g M_X12_newKind 64 [(0, .ref (w.2.1 + 503))] [] S r := by
  unfold f_X12_newKind_64 at hf
  refine es_l (pc' := 65) (ls' := [(0, .ref (w.2.1 + 503))]) (st' := [.ref (w.2.1 + 503)]) (fun _ _ k => e_aload_n dX12_newKind_64 0 rfl k) ?_
  refine es_callVI (as := []) (rest := []) hf xc_12 dX12_newKind_65 cs_X12_newKind_X12_wrong ml_X12_235 im_X12_wrong se_X12_wrong rfl rfl (Nat.le_of_ble_eq_true rfl) (Nat.le_of_ble_eq_true rfl) (by decide) rfl (cel_503 _ _ _) (fun _ e => t_X12_wrong N  S _ e) (by decide) (fun v102 S101 hf => ?_)
  obtain ⟨g103, hf⟩ := xg hf
  exact es_ireturn (ty := .boolean) dX12_newKind_68 rfl (xbo_n g103) hf
def f_X12_newKind_155 (N : Nat)   (S : xS) : Option xr :=
  xcI (f_X12_wrong N S) (fun v105 S104 =>
  if xbo v105 then
  some (.inl (some (.inl v105)), S104)
  else none
  )
set_option maxRecDepth 100000 in
set_option maxHeartbeats 4000000 in
theorem t_X12_newKind_155 {l : Launch} {w : xW} {g : Nat → xE} (N : Nat)    (S : xS) (r : xr) (hf : f_X12_newKind_155 N   S = some r) : ES l w g M_X12_newKind 155 [(0, .ref (w.2.1 + 503))] [] S r := by
  unfold f_X12_newKind_155 at hf
  refine es_l (pc' := 156) (ls' := [(0, .ref (w.2.1 + 503))]) (st' := [.ref (w.2.1 + 503)]) (fun _ _ k => e_aload_n dX12_newKind_155 0 rfl k) ?_
  refine es_callVI (as := []) (rest := []) hf xc_12 dX12_newKind_156 cs_X12_newKind_X12_wrong ml_X12_235 im_X12_wrong se_X12_wrong rfl rfl (Nat.le_of_ble_eq_true rfl) (Nat.le_of_ble_eq_true rfl) (by decide) rfl (cel_503 _ _ _) (fun _ e => t_X12_wrong N  S _ e) (by decide) (fun v105 S104 hf => ?_)
  obtain ⟨g106, hf⟩ := xg hf
  exact es_ireturn (ty := .boolean) dX12_newKind_159 rfl (xbo_n g106) hf
def f_X12_newKind_268 (N : Nat)   (S : xS) : Option xr :=
  xcI (f_X12_wrong N S) (fun v108 S107 =>
  if xbo v108 then
  some (.inl (some (.inl v108)), S107)
  else none
  )
set_option maxRecDepth 100000 in
set_option maxHeartbeats 4000000 in
theorem t_X12_newKind_268 {l : Launch} {w : xW} {g : Nat → xE} (N : Nat)    (S : xS) (r : xr) (hf : f_X12_newKind_268 N   S = some r) : ES l w g M_X12_newKind 268 [(0, .ref (w.2.1 + 503))] [] S r := by
  unfold f_X12_newKind_268 at hf
  refine es_l (pc' := 269) (ls' := [(0, .ref (w.2.1 + 503))]) (st' := [.ref (w.2.1 + 503)]) (fun _ _ k => e_aload_n dX12_newKind_268 0 rfl k) ?_
  refine es_callVI (as := []) (rest := []) hf xc_12 dX12_newKind_269 cs_X12_newKind_X12_wrong ml_X12_235 im_X12_wrong se_X12_wrong rfl rfl (Nat.le_of_ble_eq_true rfl) (Nat.le_of_ble_eq_true rfl) (by decide) rfl (cel_503 _ _ _) (fun _ e => t_X12_wrong N  S _ e) (by decide) (fun v108 S107 hf => ?_)
  obtain ⟨g109, hf⟩ := xg hf
  exact es_ireturn (ty := .boolean) dX12_newKind_272 rfl (xbo_n g109) hf
def f_X12_newKind_361 (N : Nat) (k110 : Int32 → Int32 → Int32 → xS → Option xr) (x1 : Int32) (x2 : Int32) (s0 : Int32) (S : xS) : Option xr :=
  if s0 = 0 then
    k110 x1 x2 s0 S
  else
    k110 x1 x2 s0 (sI S 503 20 ((S.1 503 20) + 1))
set_option maxRecDepth 100000 in
set_option maxHeartbeats 4000000 in
theorem t_X12_newKind_361 {l : Launch} {w : xW} {g : Nat → xE} (N : Nat) (k110 : Int32 → Int32 → Int32 → xS → Option xr) (hk110 : ∀ (x1 : Int32) (x2 : Int32) (x3 : Int32) (S : xS) (r : xr), k110 x1 x2 x3 S = some r → ES l w g M_X12_newKind 110 [(0, .ref (w.2.1 + 503)), (1, .int x1), (2, .int x2), (3, .int x3)] [] S r) (x1 : Int32) (x2 : Int32) (s0 : Int32) (S : xS) (r : xr) (hf : f_X12_newKind_361 N k110 x1 x2 s0 S = some r) : ES l w g M_X12_newKind 361 [(0, .ref (w.2.1 + 503)), (1, .int x1), (2, .int x2)] [.int s0] S r := by
  unfold f_X12_newKind_361 at hf
  refine es_l (pc' := 363) (ls' := [(3, .int s0), (0, .ref (w.2.1 + 503)), (1, .int x1), (2, .int x2)]) (st' := [.int s0]) (fun _ _ k => e_istore_n (ls' := [(3, .int s0), (0, .ref (w.2.1 + 503)), (1, .int x1), (2, .int x2)]) dX12_newKind_361 (by decide) rfl (e_iload_n dX12_newKind_362 0 rfl k)) ?_
  refine es_br (c := s0 = 0) (tgt := 110) (pf := 366) (st' := []) (fun _ _ a b => e_if_eq dX12_newKind_363 rfl a b) (fun c110 => ?_) (fun c110 => ?_)
  · rw [if_pos c110] at hf
    refine es_sub [1, 2, 3, 0] rfl ?_
    exact hk110 x1 x2 s0 S r hf
  · rw [if_neg c110] at hf
    refine es_l (pc' := 368) (ls' := [(3, .int s0), (0, .ref (w.2.1 + 503)), (1, .int x1), (2, .int x2)]) (st' := [.ref (w.2.1 + 503), .ref (w.2.1 + 503)]) (fun _ _ k => e_aload_n dX12_newKind_366 1 rfl (e_dup dX12_newKind_367 rfl k)) ?_
    refine es_get (v := .int (S.1 503 20)) xc_12 dX12_newKind_368 fl_X12_72 (by decide) (by decide) (cel_503 _ _ _) rfl ?_
    refine es_l (pc' := 373) (ls' := [(3, .int s0), (0, .ref (w.2.1 + 503)), (1, .int x1), (2, .int x2)]) (st' := [.int ((S.1 503 20) + 1), .ref (w.2.1 + 503)]) (fun _ _ k => e_iconst (v := 1) dX12_newKind_371 (by decide) (e_iadd dX12_newKind_372 k)) ?_
    refine es_put xc_12 dX12_newKind_373 fl_X12_72 (by decide) (by decide) (by decide) (cel_503 _ _ _) rfl rfl rfl rfl ?_
    refine es_l (pc' := 110) (ls' := [(3, .int s0), (0, .ref (w.2.1 + 503)), (1, .int x1), (2, .int x2)]) (st' := []) (fun _ _ k => e_goto (tgt := 110) dX12_newKind_376 rfl k) ?_
    refine es_sub [1, 2, 3, 0] rfl ?_
    exact hk110 x1 x2 s0 (sI S 503 20 ((S.1 503 20) + 1)) r hf
def f_X12_newKind_360 (N : Nat) (k110 : Int32 → Int32 → Int32 → xS → Option xr) (x1 : Int32) (x2 : Int32) (S : xS) : Option xr :=
  f_X12_newKind_361 N k110 x1 x2 0 S
set_option maxRecDepth 100000 in
set_option maxHeartbeats 4000000 in
theorem t_X12_newKind_360 {l : Launch} {w : xW} {g : Nat → xE} (N : Nat) (k110 : Int32 → Int32 → Int32 → xS → Option xr) (hk110 : ∀ (x1 : Int32) (x2 : Int32) (x3 : Int32) (S : xS) (r : xr), k110 x1 x2 x3 S = some r → ES l w g M_X12_newKind 110 [(0, .ref (w.2.1 + 503)), (1, .int x1), (2, .int x2), (3, .int x3)] [] S r) (x1 : Int32) (x2 : Int32) (S : xS) (r : xr) (hf : f_X12_newKind_360 N k110 x1 x2 S = some r) : ES l w g M_X12_newKind 360 [(0, .ref (w.2.1 + 503)), (1, .int x1), (2, .int x2)] [] S r := by
  unfold f_X12_newKind_360 at hf
  refine es_l (pc' := 361) (ls' := [(0, .ref (w.2.1 + 503)), (1, .int x1), (2, .int x2)]) (st' := [.int 0]) (fun _ _ k => e_iconst (v := 0) dX12_newKind_360 (by decide) k) ?_
  exact t_X12_newKind_361 N k110 hk110 x1 x2 0 S r hf
def f_X12_newKind_326 (N : Nat) (k110 : Int32 → Int32 → Int32 → xS → Option xr) (x1 : Int32) (x2 : Int32) (S : xS) : Option xr :=
  xcI (f_X12_isSign N 44 (sI S 503 20 ((S.1 503 20) + 1))) (fun v112 S111 =>
  if v112 = 0 then
    f_X12_newKind_360 N k110 x1 x2 S111
  else
    if xin x1 7 then
    if 6 ≤ (S111.1 506 x1.toNatClampNeg) then
      f_X12_newKind_360 N k110 x1 x2 S111
    else
      f_X12_newKind_361 N k110 x1 x2 1 S111
    else none
  )
set_option maxRecDepth 100000 in
set_option maxHeartbeats 4000000 in
theorem t_X12_newKind_326 {l : Launch} {w : xW} {g : Nat → xE} (N : Nat) (k110 : Int32 → Int32 → Int32 → xS → Option xr) (hk110 : ∀ (x1 : Int32) (x2 : Int32) (x3 : Int32) (S : xS) (r : xr), k110 x1 x2 x3 S = some r → ES l w g M_X12_newKind 110 [(0, .ref (w.2.1 + 503)), (1, .int x1), (2, .int x2), (3, .int x3)] [] S r) (x1 : Int32) (x2 : Int32) (S : xS) (r : xr) (hf : f_X12_newKind_326 N k110 x1 x2 S = some r) : ES l w g M_X12_newKind 326 [(0, .ref (w.2.1 + 503)), (1, .int x1), (2, .int x2)] [] S r := by
  unfold f_X12_newKind_326 at hf
  refine es_l (pc' := 328) (ls' := [(0, .ref (w.2.1 + 503)), (1, .int x1), (2, .int x2)]) (st' := [.ref (w.2.1 + 503), .ref (w.2.1 + 503)]) (fun _ _ k => e_aload_n dX12_newKind_326 0 rfl (e_dup dX12_newKind_327 rfl k)) ?_
  refine es_get (v := .int (S.1 503 20)) xc_12 dX12_newKind_328 fl_X12_72 (by decide) (by decide) (cel_503 _ _ _) rfl ?_
  refine es_l (pc' := 333) (ls' := [(0, .ref (w.2.1 + 503)), (1, .int x1), (2, .int x2)]) (st' := [.int ((S.1 503 20) + 1), .ref (w.2.1 + 503)]) (fun _ _ k => e_iconst (v := 1) dX12_newKind_331 (by decide) (e_iadd dX12_newKind_332 k)) ?_
  refine es_put xc_12 dX12_newKind_333 fl_X12_72 (by decide) (by decide) (by decide) (cel_503 _ _ _) rfl rfl rfl rfl ?_
  refine es_l (pc' := 339) (ls' := [(0, .ref (w.2.1 + 503)), (1, .int x1), (2, .int x2)]) (st' := [.int 44, .ref (w.2.1 + 503)]) (fun _ _ k => e_aload_n dX12_newKind_336 0 rfl (e_bipush (v := 44) dX12_newKind_337 (by decide) k)) ?_
  refine es_callVI (as := [.int 44]) (rest := []) hf xc_12 dX12_newKind_339 cs_X12_newKind_X12_isSign ml_X12_232 im_X12_isSign se_X12_isSign rfl rfl (Nat.le_of_ble_eq_true rfl) (Nat.le_of_ble_eq_true rfl) (by decide) rfl (cel_503 _ _ _) (fun _ e => t_X12_isSign N 44 (sI S 503 20 ((S.1 503 20) + 1)) _ e) (by decide) (fun v112 S111 hf => ?_)
  refine es_br (c := v112 = 0) (tgt := 360) (pf := 345) (st' := []) (fun _ _ a b => e_if_eq dX12_newKind_342 rfl a b) (fun c113 => ?_) (fun c113 => ?_)
  · rw [if_pos c113] at hf
    exact t_X12_newKind_360 N k110 hk110 x1 x2 S111 r hf
  · rw [if_neg c113] at hf
    refine es_l (pc' := 346) (ls' := [(0, .ref (w.2.1 + 503)), (1, .int x1), (2, .int x2)]) (st' := [.ref (w.2.1 + 503)]) (fun _ _ k => e_aload_n dX12_newKind_345 0 rfl k) ?_
    refine es_get (v := .ref (w.2.1 + 506)) xc_12 dX12_newKind_346 fl_X12_27 (by decide) (by decide) (cel_503 _ _ _) rfl ?_
    refine es_l (pc' := 350) (ls' := [(0, .ref (w.2.1 + 503)), (1, .int x1), (2, .int x2)]) (st' := [.int x1, .ref (w.2.1 + 506)]) (fun _ _ k => e_iload_n dX12_newKind_349 1 rfl k) ?_
    obtain ⟨g114, hf⟩ := xg hf
    refine es_iald (v := .int (S111.1 506 x1.toNatClampNeg)) dX12_newKind_350 (by decide) (cel_506 _ _ _) g114 rfl ?_
    refine es_l (pc' := 353) (ls' := [(0, .ref (w.2.1 + 503)), (1, .int x1), (2, .int x2)]) (st' := [.int 6, .int (S111.1 506 x1.toNatClampNeg)]) (fun _ _ k => e_bipush (v := 6) dX12_newKind_351 (by decide) k) ?_
    refine es_br (c := 6 ≤ (S111.1 506 x1.toNatClampNeg)) (tgt := 360) (pf := 356) (st' := []) (fun _ _ a b => e_icmp_ge dX12_newKind_353 rfl a b) (fun c115 => ?_) (fun c115 => ?_)
    · rw [if_pos c115] at hf
      exact t_X12_newKind_360 N k110 hk110 x1 x2 S111 r hf
    · rw [if_neg c115] at hf
      refine es_l (pc' := 361) (ls' := [(0, .ref (w.2.1 + 503)), (1, .int x1), (2, .int x2)]) (st' := [.int 1]) (fun _ _ k => e_iconst (v := 1) dX12_newKind_356 (by decide) (e_goto (tgt := 361) dX12_newKind_357 rfl k)) ?_
      exact t_X12_newKind_361 N k110 hk110 x1 x2 1 S111 r hf
def f_X12_newKind_195 (N : Nat) (k110 : Int32 → Int32 → Int32 → xS → Option xr) (x1 : Int32) (x2 : Int32) (S : xS) : Option xr :=
  xcI (f_X12_sign N 58 S) (fun v117 S116 =>
  if v117 = 0 then
    some (.inl (some (.inl 0)), S116)
  else
    if xin (S116.1 503 20) 152 then
    if (S116.1 514 ((S116.1 503 20).toNatClampNeg)) = 2 then
      if (lg_cmp (S116.2.1 516 ((S116.1 503 20).toNatClampNeg)) 1) < 0 then
        f_X12_newKind_268 N S116
      else
        if 0 < (lg_cmp (S116.2.1 516 ((S116.1 503 20).toNatClampNeg)) 32) then
          f_X12_newKind_268 N S116
        else
          if (lg_cmp (((x2 : Int32).toInt64) + (S116.2.1 516 ((S116.1 503 20).toNatClampNeg))) 84) ≤ 0 then
            if xin x1 7 then
            if xin ((6 * x1) + (S116.1 506 x1.toNatClampNeg)) 42 then
            f_X12_newKind_326 N k110 x1 (x2 + ((S116.2.1 516 ((S116.1 503 20).toNatClampNeg) : Int64).toInt32)) (sI (sI S116 508 (((6 * x1) + (S116.1 506 x1.toNatClampNeg)).toNatClampNeg) ((S116.2.1 516 ((S116.1 503 20).toNatClampNeg) : Int64).toInt32)) 506 x1.toNatClampNeg ((S116.1 506 x1.toNatClampNeg) + 1))
            else none
            else none
          else
            f_X12_newKind_268 N S116
    else
      f_X12_newKind_268 N S116
    else none
  )
set_option maxRecDepth 100000 in
set_option maxHeartbeats 4000000 in
theorem t_X12_newKind_195 {l : Launch} {w : xW} {g : Nat → xE} (N : Nat) (k110 : Int32 → Int32 → Int32 → xS → Option xr) (hk110 : ∀ (x1 : Int32) (x2 : Int32) (x3 : Int32) (S : xS) (r : xr), k110 x1 x2 x3 S = some r → ES l w g M_X12_newKind 110 [(0, .ref (w.2.1 + 503)), (1, .int x1), (2, .int x2), (3, .int x3)] [] S r) (x1 : Int32) (x2 : Int32) (S : xS) (r : xr) (hf : f_X12_newKind_195 N k110 x1 x2 S = some r) : ES l w g M_X12_newKind 195 [(0, .ref (w.2.1 + 503)), (1, .int x1), (2, .int x2)] [] S r := by
  unfold f_X12_newKind_195 at hf
  refine es_l (pc' := 198) (ls' := [(0, .ref (w.2.1 + 503)), (1, .int x1), (2, .int x2)]) (st' := [.int 58, .ref (w.2.1 + 503)]) (fun _ _ k => e_aload_n dX12_newKind_195 0 rfl (e_bipush (v := 58) dX12_newKind_196 (by decide) k)) ?_
  refine es_callVI (as := [.int 58]) (rest := []) hf xc_12 dX12_newKind_198 cs_X12_newKind_X12_sign ml_X12_299 im_X12_sign se_X12_sign rfl rfl (Nat.le_of_ble_eq_true rfl) (Nat.le_of_ble_eq_true rfl) (by decide) rfl (cel_503 _ _ _) (fun _ e => t_X12_sign N 58 S _ e) (by decide) (fun v117 S116 hf => ?_)
  refine es_br (c := v117 = 0) (tgt := 204) (pf := 206) (st' := []) (fun _ _ a b => e_if_ne dX12_newKind_201 rfl b a) (fun c118 => ?_) (fun c118 => ?_)
  · rw [if_pos c118] at hf
    refine es_l (pc' := 205) (ls' := [(0, .ref (w.2.1 + 503)), (1, .int x1), (2, .int x2)]) (st' := [.int 0]) (fun _ _ k => e_iconst (v := 0) dX12_newKind_204 (by decide) k) ?_
    exact es_ireturn (ty := .boolean) dX12_newKind_205 rfl rfl hf
  · rw [if_neg c118] at hf
    refine es_l (pc' := 207) (ls' := [(0, .ref (w.2.1 + 503)), (1, .int x1), (2, .int x2)]) (st' := [.ref (w.2.1 + 503)]) (fun _ _ k => e_aload_n dX12_newKind_206 0 rfl k) ?_
    refine es_get (v := .ref (w.2.1 + 514)) xc_12 dX12_newKind_207 fl_X12_57 (by decide) (by decide) (cel_503 _ _ _) rfl ?_
    refine es_l (pc' := 211) (ls' := [(0, .ref (w.2.1 + 503)), (1, .int x1), (2, .int x2)]) (st' := [.ref (w.2.1 + 503), .ref (w.2.1 + 514)]) (fun _ _ k => e_aload_n dX12_newKind_210 0 rfl k) ?_
    refine es_get (v := .int (S116.1 503 20)) xc_12 dX12_newKind_211 fl_X12_72 (by decide) (by decide) (cel_503 _ _ _) rfl ?_
    obtain ⟨g119, hf⟩ := xg hf
    refine es_iald (v := .int (S116.1 514 ((S116.1 503 20).toNatClampNeg))) dX12_newKind_214 (by decide) (cel_514 _ _ _) g119 rfl ?_
    refine es_l (pc' := 216) (ls' := [(0, .ref (w.2.1 + 503)), (1, .int x1), (2, .int x2)]) (st' := [.int 2, .int (S116.1 514 ((S116.1 503 20).toNatClampNeg))]) (fun _ _ k => e_iconst (v := 2) dX12_newKind_215 (by decide) k) ?_
    refine es_br (c := (S116.1 514 ((S116.1 503 20).toNatClampNeg)) = 2) (tgt := 219) (pf := 268) (st' := []) (fun _ _ a b => e_icmp_ne dX12_newKind_216 rfl b a) (fun c120 => ?_) (fun c120 => ?_)
    · rw [if_pos c120] at hf
      refine es_l (pc' := 220) (ls' := [(0, .ref (w.2.1 + 503)), (1, .int x1), (2, .int x2)]) (st' := [.ref (w.2.1 + 503)]) (fun _ _ k => e_aload_n dX12_newKind_219 0 rfl k) ?_
      refine es_get (v := .ref (w.2.1 + 516)) xc_12 dX12_newKind_220 fl_X12_63 (by decide) (by decide) (cel_503 _ _ _) rfl ?_
      refine es_l (pc' := 224) (ls' := [(0, .ref (w.2.1 + 503)), (1, .int x1), (2, .int x2)]) (st' := [.ref (w.2.1 + 503), .ref (w.2.1 + 516)]) (fun _ _ k => e_aload_n dX12_newKind_223 0 rfl k) ?_
      refine es_get (v := .int (S116.1 503 20)) xc_12 dX12_newKind_224 fl_X12_72 (by decide) (by decide) (cel_503 _ _ _) rfl ?_
      refine es_lald (v := .long (S116.2.1 516 ((S116.1 503 20).toNatClampNeg))) dX12_newKind_227 (by decide) (cel_516 _ _ _) g119 rfl ?_
      refine es_l (pc' := 230) (ls' := [(0, .ref (w.2.1 + 503)), (1, .int x1), (2, .int x2)]) (st' := [.int (lg_cmp (S116.2.1 516 ((S116.1 503 20).toNatClampNeg)) 1)]) (fun _ _ k => e_lconst (v := 1) dX12_newKind_228 (by decide) (e_lcmp dX12_newKind_229 k)) ?_
      refine es_br (c := (lg_cmp (S116.2.1 516 ((S116.1 503 20).toNatClampNeg)) 1) < 0) (tgt := 268) (pf := 233) (st' := []) (fun _ _ a b => e_if_lt dX12_newKind_230 rfl a b) (fun c121 => ?_) (fun c121 => ?_)
      · rw [if_pos c121] at hf
        refine es_sub [0] rfl ?_
        exact t_X12_newKind_268 N S116 r hf
      · rw [if_neg c121] at hf
        refine es_l (pc' := 234) (ls' := [(0, .ref (w.2.1 + 503)), (1, .int x1), (2, .int x2)]) (st' := [.ref (w.2.1 + 503)]) (fun _ _ k => e_aload_n dX12_newKind_233 0 rfl k) ?_
        refine es_get (v := .ref (w.2.1 + 516)) xc_12 dX12_newKind_234 fl_X12_63 (by decide) (by decide) (cel_503 _ _ _) rfl ?_
        refine es_l (pc' := 238) (ls' := [(0, .ref (w.2.1 + 503)), (1, .int x1), (2, .int x2)]) (st' := [.ref (w.2.1 + 503), .ref (w.2.1 + 516)]) (fun _ _ k => e_aload_n dX12_newKind_237 0 rfl k) ?_
        refine es_get (v := .int (S116.1 503 20)) xc_12 dX12_newKind_238 fl_X12_72 (by decide) (by decide) (cel_503 _ _ _) rfl ?_
        refine es_lald (v := .long (S116.2.1 516 ((S116.1 503 20).toNatClampNeg))) dX12_newKind_241 (by decide) (cel_516 _ _ _) g119 rfl ?_
        refine es_l (pc' := 246) (ls' := [(0, .ref (w.2.1 + 503)), (1, .int x1), (2, .int x2)]) (st' := [.int (lg_cmp (S116.2.1 516 ((S116.1 503 20).toNatClampNeg)) 32)]) (fun _ _ k => e_ldc2 dX12_newKind_242 kj_X12_314 (e_lcmp dX12_newKind_245 k)) ?_
        refine es_br (c := 0 < (lg_cmp (S116.2.1 516 ((S116.1 503 20).toNatClampNeg)) 32)) (tgt := 268) (pf := 249) (st' := []) (fun _ _ a b => e_if_gt dX12_newKind_246 rfl a b) (fun c122 => ?_) (fun c122 => ?_)
        · rw [if_pos c122] at hf
          refine es_sub [0] rfl ?_
          exact t_X12_newKind_268 N S116 r hf
        · rw [if_neg c122] at hf
          refine es_l (pc' := 252) (ls' := [(0, .ref (w.2.1 + 503)), (1, .int x1), (2, .int x2)]) (st' := [.ref (w.2.1 + 503), .long ((x2 : Int32).toInt64)]) (fun _ _ k => e_iload_n dX12_newKind_249 2 rfl (e_i2l (v := (x2 : Int32).toInt64) dX12_newKind_250 rfl (e_aload_n dX12_newKind_251 0 rfl k))) ?_
          refine es_get (v := .ref (w.2.1 + 516)) xc_12 dX12_newKind_252 fl_X12_63 (by decide) (by decide) (cel_503 _ _ _) rfl ?_
          refine es_l (pc' := 256) (ls' := [(0, .ref (w.2.1 + 503)), (1, .int x1), (2, .int x2)]) (st' := [.ref (w.2.1 + 503), .ref (w.2.1 + 516), .long ((x2 : Int32).toInt64)]) (fun _ _ k => e_aload_n dX12_newKind_255 0 rfl k) ?_
          refine es_get (v := .int (S116.1 503 20)) xc_12 dX12_newKind_256 fl_X12_72 (by decide) (by decide) (cel_503 _ _ _) rfl ?_
          refine es_lald (v := .long (S116.2.1 516 ((S116.1 503 20).toNatClampNeg))) dX12_newKind_259 (by decide) (cel_516 _ _ _) g119 rfl ?_
          refine es_l (pc' := 265) (ls' := [(0, .ref (w.2.1 + 503)), (1, .int x1), (2, .int x2)]) (st' := [.int (lg_cmp (((x2 : Int32).toInt64) + (S116.2.1 516 ((S116.1 503 20).toNatClampNeg))) 84)]) (fun _ _ k => e_ladd dX12_newKind_260 (e_ldc2 dX12_newKind_261 kj_X12_316 (e_lcmp dX12_newKind_264 k))) ?_
          refine es_br (c := (lg_cmp (((x2 : Int32).toInt64) + (S116.2.1 516 ((S116.1 503 20).toNatClampNeg))) 84) ≤ 0) (tgt := 273) (pf := 268) (st' := []) (fun _ _ a b => e_if_le dX12_newKind_265 rfl a b) (fun c123 => ?_) (fun c123 => ?_)
          · rw [if_pos c123] at hf
            refine es_l (pc' := 275) (ls' := [(0, .ref (w.2.1 + 503)), (1, .int x1), (2, .int x2)]) (st' := [.ref (w.2.1 + 503), .int x2]) (fun _ _ k => e_iload_n dX12_newKind_273 2 rfl (e_aload_n dX12_newKind_274 0 rfl k)) ?_
            refine es_get (v := .ref (w.2.1 + 516)) xc_12 dX12_newKind_275 fl_X12_63 (by decide) (by decide) (cel_503 _ _ _) rfl ?_
            refine es_l (pc' := 279) (ls' := [(0, .ref (w.2.1 + 503)), (1, .int x1), (2, .int x2)]) (st' := [.ref (w.2.1 + 503), .ref (w.2.1 + 516), .int x2]) (fun _ _ k => e_aload_n dX12_newKind_278 0 rfl k) ?_
            refine es_get (v := .int (S116.1 503 20)) xc_12 dX12_newKind_279 fl_X12_72 (by decide) (by decide) (cel_503 _ _ _) rfl ?_
            refine es_lald (v := .long (S116.2.1 516 ((S116.1 503 20).toNatClampNeg))) dX12_newKind_282 (by decide) (cel_516 _ _ _) g119 rfl ?_
            refine es_l (pc' := 287) (ls' := [(2, .int (x2 + ((S116.2.1 516 ((S116.1 503 20).toNatClampNeg) : Int64).toInt32))), (0, .ref (w.2.1 + 503)), (1, .int x1)]) (st' := [.ref (w.2.1 + 503)]) (fun _ _ k => e_l2i (v := (S116.2.1 516 ((S116.1 503 20).toNatClampNeg) : Int64).toInt32) dX12_newKind_283 rfl (e_iadd dX12_newKind_284 (e_istore_n (ls' := [(2, .int (x2 + ((S116.2.1 516 ((S116.1 503 20).toNatClampNeg) : Int64).toInt32))), (0, .ref (w.2.1 + 503)), (1, .int x1)]) dX12_newKind_285 (by decide) rfl (e_aload_n dX12_newKind_286 1 rfl k)))) ?_
            refine es_get (v := .ref (w.2.1 + 508)) xc_12 dX12_newKind_287 fl_X12_33 (by decide) (by decide) (cel_503 _ _ _) rfl ?_
            refine es_l (pc' := 295) (ls' := [(2, .int (x2 + ((S116.2.1 516 ((S116.1 503 20).toNatClampNeg) : Int64).toInt32))), (0, .ref (w.2.1 + 503)), (1, .int x1)]) (st' := [.ref (w.2.1 + 503), .int (6 * x1), .ref (w.2.1 + 508)]) (fun _ _ k => e_bipush (v := 6) dX12_newKind_290 (by decide) (e_iload_n dX12_newKind_292 2 rfl (e_imul dX12_newKind_293 (e_aload_n dX12_newKind_294 1 rfl k)))) ?_
            refine es_get (v := .ref (w.2.1 + 506)) xc_12 dX12_newKind_295 fl_X12_27 (by decide) (by decide) (cel_503 _ _ _) rfl ?_
            refine es_l (pc' := 299) (ls' := [(2, .int (x2 + ((S116.2.1 516 ((S116.1 503 20).toNatClampNeg) : Int64).toInt32))), (0, .ref (w.2.1 + 503)), (1, .int x1)]) (st' := [.int x1, .ref (w.2.1 + 506), .int (6 * x1), .ref (w.2.1 + 508)]) (fun _ _ k => e_iload_n dX12_newKind_298 2 rfl k) ?_
            obtain ⟨g124, hf⟩ := xg hf
            refine es_iald (v := .int (S116.1 506 x1.toNatClampNeg)) dX12_newKind_299 (by decide) (cel_506 _ _ _) g124 rfl ?_
            refine es_l (pc' := 302) (ls' := [(2, .int (x2 + ((S116.2.1 516 ((S116.1 503 20).toNatClampNeg) : Int64).toInt32))), (0, .ref (w.2.1 + 503)), (1, .int x1)]) (st' := [.ref (w.2.1 + 503), .int ((6 * x1) + (S116.1 506 x1.toNatClampNeg)), .ref (w.2.1 + 508)]) (fun _ _ k => e_iadd dX12_newKind_300 (e_aload_n dX12_newKind_301 1 rfl k)) ?_
            refine es_get (v := .ref (w.2.1 + 516)) xc_12 dX12_newKind_302 fl_X12_63 (by decide) (by decide) (cel_503 _ _ _) rfl ?_
            refine es_l (pc' := 306) (ls' := [(2, .int (x2 + ((S116.2.1 516 ((S116.1 503 20).toNatClampNeg) : Int64).toInt32))), (0, .ref (w.2.1 + 503)), (1, .int x1)]) (st' := [.ref (w.2.1 + 503), .ref (w.2.1 + 516), .int ((6 * x1) + (S116.1 506 x1.toNatClampNeg)), .ref (w.2.1 + 508)]) (fun _ _ k => e_aload_n dX12_newKind_305 1 rfl k) ?_
            refine es_get (v := .int (S116.1 503 20)) xc_12 dX12_newKind_306 fl_X12_72 (by decide) (by decide) (cel_503 _ _ _) rfl ?_
            refine es_lald (v := .long (S116.2.1 516 ((S116.1 503 20).toNatClampNeg))) dX12_newKind_309 (by decide) (cel_516 _ _ _) g119 rfl ?_
            refine es_l (pc' := 311) (ls' := [(2, .int (x2 + ((S116.2.1 516 ((S116.1 503 20).toNatClampNeg) : Int64).toInt32))), (0, .ref (w.2.1 + 503)), (1, .int x1)]) (st' := [.int ((S116.2.1 516 ((S116.1 503 20).toNatClampNeg) : Int64).toInt32), .int ((6 * x1) + (S116.1 506 x1.toNatClampNeg)), .ref (w.2.1 + 508)]) (fun _ _ k => e_l2i (v := (S116.2.1 516 ((S116.1 503 20).toNatClampNeg) : Int64).toInt32) dX12_newKind_310 rfl k) ?_
            obtain ⟨g125, hf⟩ := xg hf
            refine es_iast dX12_newKind_311 (by decide) (cel_508 _) g125 ?_
            refine es_l (pc' := 313) (ls' := [(2, .int (x2 + ((S116.2.1 516 ((S116.1 503 20).toNatClampNeg) : Int64).toInt32))), (0, .ref (w.2.1 + 503)), (1, .int x1)]) (st' := [.ref (w.2.1 + 503)]) (fun _ _ k => e_aload_n dX12_newKind_312 1 rfl k) ?_
            refine es_get (v := .ref (w.2.1 + 506)) xc_12 dX12_newKind_313 fl_X12_27 (by decide) (by decide) (cel_503 _ _ _) rfl ?_
            refine es_l (pc' := 318) (ls' := [(2, .int (x2 + ((S116.2.1 516 ((S116.1 503 20).toNatClampNeg) : Int64).toInt32))), (0, .ref (w.2.1 + 503)), (1, .int x1)]) (st' := [.ref (w.2.1 + 503), .int x1, .ref (w.2.1 + 506)]) (fun _ _ k => e_iload_n dX12_newKind_316 2 rfl (e_aload_n dX12_newKind_317 1 rfl k)) ?_
            refine es_get (v := .ref (w.2.1 + 506)) xc_12 dX12_newKind_318 fl_X12_27 (by decide) (by decide) (cel_503 _ _ _) rfl ?_
            refine es_l (pc' := 322) (ls' := [(2, .int (x2 + ((S116.2.1 516 ((S116.1 503 20).toNatClampNeg) : Int64).toInt32))), (0, .ref (w.2.1 + 503)), (1, .int x1)]) (st' := [.int x1, .ref (w.2.1 + 506), .int x1, .ref (w.2.1 + 506)]) (fun _ _ k => e_iload_n dX12_newKind_321 2 rfl k) ?_
            refine es_iald (v := .int (S116.1 506 x1.toNatClampNeg)) dX12_newKind_322 (by decide) (cel_506 _ _ _) g124 rfl ?_
            refine es_l (pc' := 325) (ls' := [(2, .int (x2 + ((S116.2.1 516 ((S116.1 503 20).toNatClampNeg) : Int64).toInt32))), (0, .ref (w.2.1 + 503)), (1, .int x1)]) (st' := [.int ((S116.1 506 x1.toNatClampNeg) + 1), .int x1, .ref (w.2.1 + 506)]) (fun _ _ k => e_iconst (v := 1) dX12_newKind_323 (by decide) (e_iadd dX12_newKind_324 k)) ?_
            refine es_iast dX12_newKind_325 (by decide) (cel_506 _) g124 ?_
            refine es_sub [1, 2, 0] rfl ?_
            exact t_X12_newKind_326 N k110 hk110 x1 (x2 + ((S116.2.1 516 ((S116.1 503 20).toNatClampNeg) : Int64).toInt32)) (sI (sI S116 508 (((6 * x1) + (S116.1 506 x1.toNatClampNeg)).toNatClampNeg) ((S116.2.1 516 ((S116.1 503 20).toNatClampNeg) : Int64).toInt32)) 506 x1.toNatClampNeg ((S116.1 506 x1.toNatClampNeg) + 1)) r hf
          · rw [if_neg c123] at hf
            refine es_sub [0] rfl ?_
            exact t_X12_newKind_268 N S116 r hf
    · rw [if_neg c120] at hf
      refine es_sub [0] rfl ?_
      exact t_X12_newKind_268 N S116 r hf
def f_X12_newKind_110 (N : Nat)  : Nat → Int32 → Int32 → Int32 → xS → Option xr
  | 0, _, _, _, _ => none
  | n + 1, x1, x2, x3, S =>
  if x3 = 0 then
    xcI (f_X12_sign N 59 (sI S 503 3 ((S.1 503 3) + 1))) (fun v128 S127 =>
    if xbo v128 then
    some (.inl (some (.inl v128)), S127)
    else none
    )
  else
    if xin x1 7 then
    if (S.1 506 x1.toNatClampNeg) = 6 then
      f_X12_newKind_155 N S
    else
      if xin (S.1 503 20) 152 then
      if (S.1 514 ((S.1 503 20).toNatClampNeg)) = 1 then
        xcI (f_X12_fieldOf N x1 (S.2.1 516 ((S.1 503 20).toNatClampNeg)) S) (fun v135 S134 =>
        if v135 < 0 then
          if xin (S134.1 503 20) 152 then
          if xin ((6 * x1) + (S134.1 506 x1.toNatClampNeg)) 42 then
          f_X12_newKind_195 N (f_X12_newKind_110 N n) x1 x2 (sI (sJ S134 507 (((6 * x1) + (S134.1 506 x1.toNatClampNeg)).toNatClampNeg) (S134.2.1 516 ((S134.1 503 20).toNatClampNeg))) 503 20 ((S134.1 503 20) + 1))
          else none
          else none
        else
          f_X12_newKind_155 N S134
        )
      else
        f_X12_newKind_155 N S
      else none
    else none
set_option maxRecDepth 100000 in
set_option maxHeartbeats 4000000 in
theorem t_X12_newKind_110 {l : Launch} {w : xW} {g : Nat → xE} (N : Nat)   : ∀ (n : Nat) (x1 : Int32) (x2 : Int32) (x3 : Int32) (S : xS) (r : xr), f_X12_newKind_110 N  n x1 x2 x3 S = some r → ES l w g M_X12_newKind 110 [(0, .ref (w.2.1 + 503)), (1, .int x1), (2, .int x2), (3, .int x3)] [] S r := by
  intro n
  induction n with
  | zero => intro x1 x2 x3 S r hf; cases hf
  | succ n ih =>
    intro x1 x2 x3 S r hf
    rw [f_X12_newKind_110.eq_2] at hf
    refine es_l (pc' := 111) (ls' := [(0, .ref (w.2.1 + 503)), (1, .int x1), (2, .int x2), (3, .int x3)]) (st' := [.int x3]) (fun _ _ k => e_iload_n dX12_newKind_110 3 rfl k) ?_
    refine es_br (c := x3 = 0) (tgt := 379) (pf := 114) (st' := []) (fun _ _ a b => e_if_eq dX12_newKind_111 rfl a b) (fun c126 => ?_) (fun c126 => ?_)
    · rw [if_pos c126] at hf
      refine es_l (pc' := 381) (ls' := [(0, .ref (w.2.1 + 503)), (1, .int x1), (2, .int x2), (3, .int x3)]) (st' := [.ref (w.2.1 + 503), .ref (w.2.1 + 503)]) (fun _ _ k => e_aload_n dX12_newKind_379 0 rfl (e_dup dX12_newKind_380 rfl k)) ?_
      refine es_get (v := .int (S.1 503 3)) xc_12 dX12_newKind_381 fl_X12_20 (by decide) (by decide) (cel_503 _ _ _) rfl ?_
      refine es_l (pc' := 386) (ls' := [(0, .ref (w.2.1 + 503)), (1, .int x1), (2, .int x2), (3, .int x3)]) (st' := [.int ((S.1 503 3) + 1), .ref (w.2.1 + 503)]) (fun _ _ k => e_iconst (v := 1) dX12_newKind_384 (by decide) (e_iadd dX12_newKind_385 k)) ?_
      refine es_put xc_12 dX12_newKind_386 fl_X12_20 (by decide) (by decide) (by decide) (cel_503 _ _ _) rfl rfl rfl rfl ?_
      refine es_l (pc' := 392) (ls' := [(0, .ref (w.2.1 + 503)), (1, .int x1), (2, .int x2), (3, .int x3)]) (st' := [.int 59, .ref (w.2.1 + 503)]) (fun _ _ k => e_aload_n dX12_newKind_389 0 rfl (e_bipush (v := 59) dX12_newKind_390 (by decide) k)) ?_
      refine es_callVI (as := [.int 59]) (rest := []) hf xc_12 dX12_newKind_392 cs_X12_newKind_X12_sign ml_X12_299 im_X12_sign se_X12_sign rfl rfl (Nat.le_of_ble_eq_true rfl) (Nat.le_of_ble_eq_true rfl) (by decide) rfl (cel_503 _ _ _) (fun _ e => t_X12_sign N 59 (sI S 503 3 ((S.1 503 3) + 1)) _ e) (by decide) (fun v128 S127 hf => ?_)
      obtain ⟨g129, hf⟩ := xg hf
      exact es_ireturn (ty := .boolean) dX12_newKind_395 rfl (xbo_n g129) hf
    · rw [if_neg c126] at hf
      refine es_l (pc' := 115) (ls' := [(0, .ref (w.2.1 + 503)), (1, .int x1), (2, .int x2), (3, .int x3)]) (st' := [.ref (w.2.1 + 503)]) (fun _ _ k => e_aload_n dX12_newKind_114 0 rfl k) ?_
      refine es_get (v := .ref (w.2.1 + 506)) xc_12 dX12_newKind_115 fl_X12_27 (by decide) (by decide) (cel_503 _ _ _) rfl ?_
      refine es_l (pc' := 119) (ls' := [(0, .ref (w.2.1 + 503)), (1, .int x1), (2, .int x2), (3, .int x3)]) (st' := [.int x1, .ref (w.2.1 + 506)]) (fun _ _ k => e_iload_n dX12_newKind_118 1 rfl k) ?_
      obtain ⟨g130, hf⟩ := xg hf
      refine es_iald (v := .int (S.1 506 x1.toNatClampNeg)) dX12_newKind_119 (by decide) (cel_506 _ _ _) g130 rfl ?_
      refine es_l (pc' := 122) (ls' := [(0, .ref (w.2.1 + 503)), (1, .int x1), (2, .int x2), (3, .int x3)]) (st' := [.int 6, .int (S.1 506 x1.toNatClampNeg)]) (fun _ _ k => e_bipush (v := 6) dX12_newKind_120 (by decide) k) ?_
      refine es_br (c := (S.1 506 x1.toNatClampNeg) = 6) (tgt := 155) (pf := 125) (st' := []) (fun _ _ a b => e_icmp_eq dX12_newKind_122 rfl a b) (fun c131 => ?_) (fun c131 => ?_)
      · rw [if_pos c131] at hf
        refine es_sub [0] rfl ?_
        exact t_X12_newKind_155 N S r hf
      · rw [if_neg c131] at hf
        refine es_l (pc' := 126) (ls' := [(0, .ref (w.2.1 + 503)), (1, .int x1), (2, .int x2), (3, .int x3)]) (st' := [.ref (w.2.1 + 503)]) (fun _ _ k => e_aload_n dX12_newKind_125 0 rfl k) ?_
        refine es_get (v := .ref (w.2.1 + 514)) xc_12 dX12_newKind_126 fl_X12_57 (by decide) (by decide) (cel_503 _ _ _) rfl ?_
        refine es_l (pc' := 130) (ls' := [(0, .ref (w.2.1 + 503)), (1, .int x1), (2, .int x2), (3, .int x3)]) (st' := [.ref (w.2.1 + 503), .ref (w.2.1 + 514)]) (fun _ _ k => e_aload_n dX12_newKind_129 0 rfl k) ?_
        refine es_get (v := .int (S.1 503 20)) xc_12 dX12_newKind_130 fl_X12_72 (by decide) (by decide) (cel_503 _ _ _) rfl ?_
        obtain ⟨g132, hf⟩ := xg hf
        refine es_iald (v := .int (S.1 514 ((S.1 503 20).toNatClampNeg))) dX12_newKind_133 (by decide) (cel_514 _ _ _) g132 rfl ?_
        refine es_l (pc' := 135) (ls' := [(0, .ref (w.2.1 + 503)), (1, .int x1), (2, .int x2), (3, .int x3)]) (st' := [.int 1, .int (S.1 514 ((S.1 503 20).toNatClampNeg))]) (fun _ _ k => e_iconst (v := 1) dX12_newKind_134 (by decide) k) ?_
        refine es_br (c := (S.1 514 ((S.1 503 20).toNatClampNeg)) = 1) (tgt := 138) (pf := 155) (st' := []) (fun _ _ a b => e_icmp_ne dX12_newKind_135 rfl b a) (fun c133 => ?_) (fun c133 => ?_)
        · rw [if_pos c133] at hf
          refine es_l (pc' := 141) (ls' := [(0, .ref (w.2.1 + 503)), (1, .int x1), (2, .int x2), (3, .int x3)]) (st' := [.ref (w.2.1 + 503), .int x1, .ref (w.2.1 + 503)]) (fun _ _ k => e_aload_n dX12_newKind_138 0 rfl (e_iload_n dX12_newKind_139 1 rfl (e_aload_n dX12_newKind_140 0 rfl k))) ?_
          refine es_get (v := .ref (w.2.1 + 516)) xc_12 dX12_newKind_141 fl_X12_63 (by decide) (by decide) (cel_503 _ _ _) rfl ?_
          refine es_l (pc' := 145) (ls' := [(0, .ref (w.2.1 + 503)), (1, .int x1), (2, .int x2), (3, .int x3)]) (st' := [.ref (w.2.1 + 503), .ref (w.2.1 + 516), .int x1, .ref (w.2.1 + 503)]) (fun _ _ k => e_aload_n dX12_newKind_144 0 rfl k) ?_
          refine es_get (v := .int (S.1 503 20)) xc_12 dX12_newKind_145 fl_X12_72 (by decide) (by decide) (cel_503 _ _ _) rfl ?_
          refine es_lald (v := .long (S.2.1 516 ((S.1 503 20).toNatClampNeg))) dX12_newKind_148 (by decide) (cel_516 _ _ _) g132 rfl ?_
          refine es_callVI (as := [.int x1, .long (S.2.1 516 ((S.1 503 20).toNatClampNeg))]) (rest := []) hf xc_12 dX12_newKind_149 cs_X12_newKind_X12_fieldOf ml_X12_246 im_X12_fieldOf se_X12_fieldOf rfl rfl (Nat.le_of_ble_eq_true rfl) (Nat.le_of_ble_eq_true rfl) (by decide) rfl (cel_503 _ _ _) (fun _ e => t_X12_fieldOf N x1 (S.2.1 516 ((S.1 503 20).toNatClampNeg)) S _ e) (by decide) (fun v135 S134 hf => ?_)
          refine es_br (c := v135 < 0) (tgt := 160) (pf := 155) (st' := []) (fun _ _ a b => e_if_lt dX12_newKind_152 rfl a b) (fun c136 => ?_) (fun c136 => ?_)
          · rw [if_pos c136] at hf
            refine es_l (pc' := 161) (ls' := [(0, .ref (w.2.1 + 503)), (1, .int x1), (2, .int x2), (3, .int x3)]) (st' := [.ref (w.2.1 + 503)]) (fun _ _ k => e_aload_n dX12_newKind_160 0 rfl k) ?_
            refine es_get (v := .ref (w.2.1 + 507)) xc_12 dX12_newKind_161 fl_X12_30 (by decide) (by decide) (cel_503 _ _ _) rfl ?_
            refine es_l (pc' := 169) (ls' := [(0, .ref (w.2.1 + 503)), (1, .int x1), (2, .int x2), (3, .int x3)]) (st' := [.ref (w.2.1 + 503), .int (6 * x1), .ref (w.2.1 + 507)]) (fun _ _ k => e_bipush (v := 6) dX12_newKind_164 (by decide) (e_iload_n dX12_newKind_166 1 rfl (e_imul dX12_newKind_167 (e_aload_n dX12_newKind_168 0 rfl k)))) ?_
            refine es_get (v := .ref (w.2.1 + 506)) xc_12 dX12_newKind_169 fl_X12_27 (by decide) (by decide) (cel_503 _ _ _) rfl ?_
            refine es_l (pc' := 173) (ls' := [(0, .ref (w.2.1 + 503)), (1, .int x1), (2, .int x2), (3, .int x3)]) (st' := [.int x1, .ref (w.2.1 + 506), .int (6 * x1), .ref (w.2.1 + 507)]) (fun _ _ k => e_iload_n dX12_newKind_172 1 rfl k) ?_
            refine es_iald (v := .int (S134.1 506 x1.toNatClampNeg)) dX12_newKind_173 (by decide) (cel_506 _ _ _) g130 rfl ?_
            refine es_l (pc' := 176) (ls' := [(0, .ref (w.2.1 + 503)), (1, .int x1), (2, .int x2), (3, .int x3)]) (st' := [.ref (w.2.1 + 503), .int ((6 * x1) + (S134.1 506 x1.toNatClampNeg)), .ref (w.2.1 + 507)]) (fun _ _ k => e_iadd dX12_newKind_174 (e_aload_n dX12_newKind_175 0 rfl k)) ?_
            refine es_get (v := .ref (w.2.1 + 516)) xc_12 dX12_newKind_176 fl_X12_63 (by decide) (by decide) (cel_503 _ _ _) rfl ?_
            refine es_l (pc' := 180) (ls' := [(0, .ref (w.2.1 + 503)), (1, .int x1), (2, .int x2), (3, .int x3)]) (st' := [.ref (w.2.1 + 503), .ref (w.2.1 + 516), .int ((6 * x1) + (S134.1 506 x1.toNatClampNeg)), .ref (w.2.1 + 507)]) (fun _ _ k => e_aload_n dX12_newKind_179 0 rfl k) ?_
            refine es_get (v := .int (S134.1 503 20)) xc_12 dX12_newKind_180 fl_X12_72 (by decide) (by decide) (cel_503 _ _ _) rfl ?_
            obtain ⟨g137, hf⟩ := xg hf
            refine es_lald (v := .long (S134.2.1 516 ((S134.1 503 20).toNatClampNeg))) dX12_newKind_183 (by decide) (cel_516 _ _ _) g137 rfl ?_
            obtain ⟨g138, hf⟩ := xg hf
            refine es_last dX12_newKind_184 (by decide) (cel_507 _) g138 ?_
            refine es_l (pc' := 187) (ls' := [(0, .ref (w.2.1 + 503)), (1, .int x1), (2, .int x2), (3, .int x3)]) (st' := [.ref (w.2.1 + 503), .ref (w.2.1 + 503)]) (fun _ _ k => e_aload_n dX12_newKind_185 0 rfl (e_dup dX12_newKind_186 rfl k)) ?_
            refine es_get (v := .int (S134.1 503 20)) xc_12 dX12_newKind_187 fl_X12_72 (by decide) (by decide) (cel_503 _ _ _) rfl ?_
            refine es_l (pc' := 192) (ls' := [(0, .ref (w.2.1 + 503)), (1, .int x1), (2, .int x2), (3, .int x3)]) (st' := [.int ((S134.1 503 20) + 1), .ref (w.2.1 + 503)]) (fun _ _ k => e_iconst (v := 1) dX12_newKind_190 (by decide) (e_iadd dX12_newKind_191 k)) ?_
            refine es_put xc_12 dX12_newKind_192 fl_X12_72 (by decide) (by decide) (by decide) (cel_503 _ _ _) rfl rfl rfl rfl ?_
            refine es_sub [0, 1, 2] rfl ?_
            exact t_X12_newKind_195 N (f_X12_newKind_110 N n) ih x1 x2 (sI (sJ S134 507 (((6 * x1) + (S134.1 506 x1.toNatClampNeg)).toNatClampNeg) (S134.2.1 516 ((S134.1 503 20).toNatClampNeg))) 503 20 ((S134.1 503 20) + 1)) r hf
          · rw [if_neg c136] at hf
            refine es_sub [0] rfl ?_
            exact t_X12_newKind_155 N S134 r hf
        · rw [if_neg c133] at hf
          refine es_sub [0] rfl ?_
          exact t_X12_newKind_155 N S r hf
def f_X12_newKind_96 (N : Nat)  (x1 : Int32) (S : xS) : Option xr :=
  f_X12_newKind_110 N N x1 0 1 (sI S 503 20 ((S.1 503 20) + 1))
set_option maxRecDepth 100000 in
set_option maxHeartbeats 4000000 in
theorem t_X12_newKind_96 {l : Launch} {w : xW} {g : Nat → xE} (N : Nat)   (x1 : Int32) (S : xS) (r : xr) (hf : f_X12_newKind_96 N  x1 S = some r) : ES l w g M_X12_newKind 96 [(0, .ref (w.2.1 + 503)), (1, .int x1)] [] S r := by
  unfold f_X12_newKind_96 at hf
  refine es_l (pc' := 98) (ls' := [(0, .ref (w.2.1 + 503)), (1, .int x1)]) (st' := [.ref (w.2.1 + 503), .ref (w.2.1 + 503)]) (fun _ _ k => e_aload_n dX12_newKind_96 0 rfl (e_dup dX12_newKind_97 rfl k)) ?_
  refine es_get (v := .int (S.1 503 20)) xc_12 dX12_newKind_98 fl_X12_72 (by decide) (by decide) (cel_503 _ _ _) rfl ?_
  refine es_l (pc' := 103) (ls' := [(0, .ref (w.2.1 + 503)), (1, .int x1)]) (st' := [.int ((S.1 503 20) + 1), .ref (w.2.1 + 503)]) (fun _ _ k => e_iconst (v := 1) dX12_newKind_101 (by decide) (e_iadd dX12_newKind_102 k)) ?_
  refine es_put xc_12 dX12_newKind_103 fl_X12_72 (by decide) (by decide) (by decide) (cel_503 _ _ _) rfl rfl rfl rfl ?_
  refine es_l (pc' := 110) (ls' := [(3, .int 1), (2, .int 0), (0, .ref (w.2.1 + 503)), (1, .int x1)]) (st' := []) (fun _ _ k => e_iconst (v := 0) dX12_newKind_106 (by decide) (e_istore_n (ls' := [(2, .int 0), (0, .ref (w.2.1 + 503)), (1, .int x1)]) dX12_newKind_107 (by decide) rfl (e_iconst (v := 1) dX12_newKind_108 (by decide) (e_istore_n (ls' := [(3, .int 1), (2, .int 0), (0, .ref (w.2.1 + 503)), (1, .int x1)]) dX12_newKind_109 (by decide) rfl k)))) ?_
  refine es_sub [2, 3, 1, 0] rfl ?_
  exact t_X12_newKind_110 N N x1 0 1 (sI S 503 20 ((S.1 503 20) + 1)) r hf
def f_X12_newKind (N : Nat)  (S : xS) : Option xr :=
  if xin ((S.1 503 20) + 1) 152 then
  if (S.1 514 (((S.1 503 20) + 1).toNatClampNeg)) = 1 then
    xcI (f_X12_kindOf N (S.2.1 516 (((S.1 503 20) + 1).toNatClampNeg)) (sI S 503 20 ((S.1 503 20) + 1))) (fun v142 S141 =>
    if 0 ≤ v142 then
      f_X12_newKind_64 N S141
    else
      if xin (S141.1 503 20) 152 then
      xcI (f_X12_varOf N (S141.2.1 516 ((S141.1 503 20).toNatClampNeg)) S141) (fun v146 S145 =>
      if 0 ≤ v146 then
        f_X12_newKind_64 N S145
      else
        if (S145.1 503 3) = 7 then
          f_X12_newKind_64 N S145
        else
          if xin (S145.1 503 20) 152 then
          if xin (S145.1 503 3) 7 then
          f_X12_newKind_96 N (S145.1 503 3) (sI (sJ S145 505 ((S145.1 503 3).toNatClampNeg) (S145.2.1 516 ((S145.1 503 20).toNatClampNeg))) 506 ((S145.1 503 3).toNatClampNeg) 0)
          else none
          else none
      )
      else none
    )
  else
    f_X12_newKind_64 N (sI S 503 20 ((S.1 503 20) + 1))
  else none
set_option maxRecDepth 100000 in
set_option maxHeartbeats 4000000 in
theorem t_X12_newKind {l : Launch} {w : xW} {g : Nat → xE} (N : Nat)  (S : xS) (r : xr) (hf : f_X12_newKind N  S = some r) : ES l w g M_X12_newKind 0 (lv_args 0 [.ref (w.2.1 + 503)]) [] S r := by
  show ES l w g M_X12_newKind 0 [(0, .ref (w.2.1 + 503))] [] S r
  unfold f_X12_newKind at hf
  refine es_l (pc' := 2) (ls' := [(0, .ref (w.2.1 + 503))]) (st' := [.ref (w.2.1 + 503), .ref (w.2.1 + 503)]) (fun _ _ k => e_aload_n dX12_newKind_0 0 rfl (e_dup dX12_newKind_1 rfl k)) ?_
  refine es_get (v := .int (S.1 503 20)) xc_12 dX12_newKind_2 fl_X12_72 (by decide) (by decide) (cel_503 _ _ _) rfl ?_
  refine es_l (pc' := 7) (ls' := [(0, .ref (w.2.1 + 503))]) (st' := [.int ((S.1 503 20) + 1), .ref (w.2.1 + 503)]) (fun _ _ k => e_iconst (v := 1) dX12_newKind_5 (by decide) (e_iadd dX12_newKind_6 k)) ?_
  refine es_put xc_12 dX12_newKind_7 fl_X12_72 (by decide) (by decide) (by decide) (cel_503 _ _ _) rfl rfl rfl rfl ?_
  refine es_l (pc' := 11) (ls' := [(0, .ref (w.2.1 + 503))]) (st' := [.ref (w.2.1 + 503)]) (fun _ _ k => e_aload_n dX12_newKind_10 0 rfl k) ?_
  refine es_get (v := .ref (w.2.1 + 514)) xc_12 dX12_newKind_11 fl_X12_57 (by decide) (by decide) (cel_503 _ _ _) rfl ?_
  refine es_l (pc' := 15) (ls' := [(0, .ref (w.2.1 + 503))]) (st' := [.ref (w.2.1 + 503), .ref (w.2.1 + 514)]) (fun _ _ k => e_aload_n dX12_newKind_14 0 rfl k) ?_
  refine es_get (v := .int ((S.1 503 20) + 1)) xc_12 dX12_newKind_15 fl_X12_72 (by decide) (by decide) (cel_503 _ _ _) rfl ?_
  obtain ⟨g139, hf⟩ := xg hf
  refine es_iald (v := .int (S.1 514 (((S.1 503 20) + 1).toNatClampNeg))) dX12_newKind_18 (by decide) (cel_514 _ _ _) g139 rfl ?_
  refine es_l (pc' := 20) (ls' := [(0, .ref (w.2.1 + 503))]) (st' := [.int 1, .int (S.1 514 (((S.1 503 20) + 1).toNatClampNeg))]) (fun _ _ k => e_iconst (v := 1) dX12_newKind_19 (by decide) k) ?_
  refine es_br (c := (S.1 514 (((S.1 503 20) + 1).toNatClampNeg)) = 1) (tgt := 23) (pf := 64) (st' := []) (fun _ _ a b => e_icmp_ne dX12_newKind_20 rfl b a) (fun c140 => ?_) (fun c140 => ?_)
  · rw [if_pos c140] at hf
    refine es_l (pc' := 25) (ls' := [(0, .ref (w.2.1 + 503))]) (st' := [.ref (w.2.1 + 503), .ref (w.2.1 + 503)]) (fun _ _ k => e_aload_n dX12_newKind_23 0 rfl (e_aload_n dX12_newKind_24 0 rfl k)) ?_
    refine es_get (v := .ref (w.2.1 + 516)) xc_12 dX12_newKind_25 fl_X12_63 (by decide) (by decide) (cel_503 _ _ _) rfl ?_
    refine es_l (pc' := 29) (ls' := [(0, .ref (w.2.1 + 503))]) (st' := [.ref (w.2.1 + 503), .ref (w.2.1 + 516), .ref (w.2.1 + 503)]) (fun _ _ k => e_aload_n dX12_newKind_28 0 rfl k) ?_
    refine es_get (v := .int ((S.1 503 20) + 1)) xc_12 dX12_newKind_29 fl_X12_72 (by decide) (by decide) (cel_503 _ _ _) rfl ?_
    refine es_lald (v := .long (S.2.1 516 (((S.1 503 20) + 1).toNatClampNeg))) dX12_newKind_32 (by decide) (cel_516 _ _ _) g139 rfl ?_
    refine es_callVI (as := [.long (S.2.1 516 (((S.1 503 20) + 1).toNatClampNeg))]) (rest := []) hf xc_12 dX12_newKind_33 cs_X12_newKind_X12_kindOf ml_X12_242 im_X12_kindOf se_X12_kindOf rfl rfl (Nat.le_of_ble_eq_true rfl) (Nat.le_of_ble_eq_true rfl) (by decide) rfl (cel_503 _ _ _) (fun _ e => t_X12_kindOf N (S.2.1 516 (((S.1 503 20) + 1).toNatClampNeg)) (sI S 503 20 ((S.1 503 20) + 1)) _ e) (by decide) (fun v142 S141 hf => ?_)
    refine es_br (c := 0 ≤ v142) (tgt := 64) (pf := 39) (st' := []) (fun _ _ a b => e_if_ge dX12_newKind_36 rfl a b) (fun c143 => ?_) (fun c143 => ?_)
    · rw [if_pos c143] at hf
      exact t_X12_newKind_64 N S141 r hf
    · rw [if_neg c143] at hf
      refine es_l (pc' := 41) (ls' := [(0, .ref (w.2.1 + 503))]) (st' := [.ref (w.2.1 + 503), .ref (w.2.1 + 503)]) (fun _ _ k => e_aload_n dX12_newKind_39 0 rfl (e_aload_n dX12_newKind_40 0 rfl k)) ?_
      refine es_get (v := .ref (w.2.1 + 516)) xc_12 dX12_newKind_41 fl_X12_63 (by decide) (by decide) (cel_503 _ _ _) rfl ?_
      refine es_l (pc' := 45) (ls' := [(0, .ref (w.2.1 + 503))]) (st' := [.ref (w.2.1 + 503), .ref (w.2.1 + 516), .ref (w.2.1 + 503)]) (fun _ _ k => e_aload_n dX12_newKind_44 0 rfl k) ?_
      refine es_get (v := .int (S141.1 503 20)) xc_12 dX12_newKind_45 fl_X12_72 (by decide) (by decide) (cel_503 _ _ _) rfl ?_
      obtain ⟨g144, hf⟩ := xg hf
      refine es_lald (v := .long (S141.2.1 516 ((S141.1 503 20).toNatClampNeg))) dX12_newKind_48 (by decide) (cel_516 _ _ _) g144 rfl ?_
      refine es_callVI (as := [.long (S141.2.1 516 ((S141.1 503 20).toNatClampNeg))]) (rest := []) hf xc_12 dX12_newKind_49 cs_X12_newKind_X12_varOf ml_X12_250 im_X12_varOf se_X12_varOf rfl rfl (Nat.le_of_ble_eq_true rfl) (Nat.le_of_ble_eq_true rfl) (by decide) rfl (cel_503 _ _ _) (fun _ e => t_X12_varOf N (S141.2.1 516 ((S141.1 503 20).toNatClampNeg)) S141 _ e) (by decide) (fun v146 S145 hf => ?_)
      refine es_br (c := 0 ≤ v146) (tgt := 64) (pf := 55) (st' := []) (fun _ _ a b => e_if_ge dX12_newKind_52 rfl a b) (fun c147 => ?_) (fun c147 => ?_)
      · rw [if_pos c147] at hf
        exact t_X12_newKind_64 N S145 r hf
      · rw [if_neg c147] at hf
        refine es_l (pc' := 56) (ls' := [(0, .ref (w.2.1 + 503))]) (st' := [.ref (w.2.1 + 503)]) (fun _ _ k => e_aload_n dX12_newKind_55 0 rfl k) ?_
        refine es_get (v := .int (S145.1 503 3)) xc_12 dX12_newKind_56 fl_X12_20 (by decide) (by decide) (cel_503 _ _ _) rfl ?_
        refine es_l (pc' := 61) (ls' := [(0, .ref (w.2.1 + 503))]) (st' := [.int 7, .int (S145.1 503 3)]) (fun _ _ k => e_bipush (v := 7) dX12_newKind_59 (by decide) k) ?_
        refine es_br (c := (S145.1 503 3) = 7) (tgt := 64) (pf := 69) (st' := []) (fun _ _ a b => e_icmp_ne dX12_newKind_61 rfl b a) (fun c148 => ?_) (fun c148 => ?_)
        · rw [if_pos c148] at hf
          exact t_X12_newKind_64 N S145 r hf
        · rw [if_neg c148] at hf
          refine es_l (pc' := 70) (ls' := [(0, .ref (w.2.1 + 503))]) (st' := [.ref (w.2.1 + 503)]) (fun _ _ k => e_aload_n dX12_newKind_69 0 rfl k) ?_
          refine es_get (v := .int (S145.1 503 3)) xc_12 dX12_newKind_70 fl_X12_20 (by decide) (by decide) (cel_503 _ _ _) rfl ?_
          refine es_l (pc' := 75) (ls' := [(1, .int (S145.1 503 3)), (0, .ref (w.2.1 + 503))]) (st' := [.ref (w.2.1 + 503)]) (fun _ _ k => e_istore_n (ls' := [(1, .int (S145.1 503 3)), (0, .ref (w.2.1 + 503))]) dX12_newKind_73 (by decide) rfl (e_aload_n dX12_newKind_74 1 rfl k)) ?_
          refine es_get (v := .ref (w.2.1 + 505)) xc_12 dX12_newKind_75 fl_X12_23 (by decide) (by decide) (cel_503 _ _ _) rfl ?_
          refine es_l (pc' := 80) (ls' := [(1, .int (S145.1 503 3)), (0, .ref (w.2.1 + 503))]) (st' := [.ref (w.2.1 + 503), .int (S145.1 503 3), .ref (w.2.1 + 505)]) (fun _ _ k => e_iload_n dX12_newKind_78 0 rfl (e_aload_n dX12_newKind_79 1 rfl k)) ?_
          refine es_get (v := .ref (w.2.1 + 516)) xc_12 dX12_newKind_80 fl_X12_63 (by decide) (by decide) (cel_503 _ _ _) rfl ?_
          refine es_l (pc' := 84) (ls' := [(1, .int (S145.1 503 3)), (0, .ref (w.2.1 + 503))]) (st' := [.ref (w.2.1 + 503), .ref (w.2.1 + 516), .int (S145.1 503 3), .ref (w.2.1 + 505)]) (fun _ _ k => e_aload_n dX12_newKind_83 1 rfl k) ?_
          refine es_get (v := .int (S145.1 503 20)) xc_12 dX12_newKind_84 fl_X12_72 (by decide) (by decide) (cel_503 _ _ _) rfl ?_
          obtain ⟨g149, hf⟩ := xg hf
          refine es_lald (v := .long (S145.2.1 516 ((S145.1 503 20).toNatClampNeg))) dX12_newKind_87 (by decide) (cel_516 _ _ _) g149 rfl ?_
          obtain ⟨g150, hf⟩ := xg hf
          refine es_last dX12_newKind_88 (by decide) (cel_505 _) g150 ?_
          refine es_l (pc' := 90) (ls' := [(1, .int (S145.1 503 3)), (0, .ref (w.2.1 + 503))]) (st' := [.ref (w.2.1 + 503)]) (fun _ _ k => e_aload_n dX12_newKind_89 1 rfl k) ?_
          refine es_get (v := .ref (w.2.1 + 506)) xc_12 dX12_newKind_90 fl_X12_27 (by decide) (by decide) (cel_503 _ _ _) rfl ?_
          refine es_l (pc' := 95) (ls' := [(1, .int (S145.1 503 3)), (0, .ref (w.2.1 + 503))]) (st' := [.int 0, .int (S145.1 503 3), .ref (w.2.1 + 506)]) (fun _ _ k => e_iload_n dX12_newKind_93 0 rfl (e_iconst (v := 0) dX12_newKind_94 (by decide) k)) ?_
          refine es_iast dX12_newKind_95 (by decide) (cel_506 _) g150 ?_
          refine es_sub [1, 0] rfl ?_
          exact t_X12_newKind_96 N (S145.1 503 3) (sI (sJ S145 505 ((S145.1 503 3).toNatClampNeg) (S145.2.1 516 ((S145.1 503 20).toNatClampNeg))) 506 ((S145.1 503 3).toNatClampNeg) 0) r hf
  · rw [if_neg c140] at hf
    exact t_X12_newKind_64 N (sI S 503 20 ((S.1 503 20) + 1)) r hf
def f_X12_puts_238 (N : Nat)   (S : xS) : Option xr :=
  xcI (f_X12_sign N 59 S) (fun v90 S89 =>
  if xbo v90 then
  some (.inl (some (.inl v90)), S89)
  else none
  )
set_option maxRecDepth 100000 in
set_option maxHeartbeats 4000000 in
theorem t_X12_puts_238 {l : Launch} {w : xW} {g : Nat → xE} (N : Nat)    (S : xS) (r : xr) (hf : f_X12_puts_238 N   S = some r) : ES l w g M_X12_puts 238 [(0, .ref (w.2.1 + 503))] [] S r := by
  unfold f_X12_puts_238 at hf
  refine es_l (pc' := 241) (ls' := [(0, .ref (w.2.1 + 503))]) (st' := [.int 59, .ref (w.2.1 + 503)]) (fun _ _ k => e_aload_n dX12_puts_238 0 rfl (e_bipush (v := 59) dX12_puts_239 (by decide) k)) ?_
  refine es_callVI (as := [.int 59]) (rest := []) hf xc_12 dX12_puts_241 cs_X12_puts_X12_sign ml_X12_299 im_X12_sign se_X12_sign rfl rfl (Nat.le_of_ble_eq_true rfl) (Nat.le_of_ble_eq_true rfl) (by decide) rfl (cel_503 _ _ _) (fun _ e => t_X12_sign N 59 S _ e) (by decide) (fun v90 S89 hf => ?_)
  obtain ⟨g91, hf⟩ := xg hf
  exact es_ireturn (ty := .boolean) dX12_puts_244 rfl (xbo_n g91) hf
def f_X12_puts_214 (N : Nat)  : Nat → Int32 → Int32 → xS → Option xr
  | 0, _, _, _ => none
  | n + 1, x4, x7, S =>
  if x4 ≤ x7 then
    f_X12_puts_238 N S
  else
    if xin x7 8 then
    xcV (f_X12_emit N (S.1 525 x7.toNatClampNeg) S) (fun S94 =>
    f_X12_puts_214 N n x4 (x7 + 1) S94
    )
    else none
set_option maxRecDepth 100000 in
set_option maxHeartbeats 4000000 in
theorem t_X12_puts_214 {l : Launch} {w : xW} {g : Nat → xE} (N : Nat)   : ∀ (n : Nat) (x4 : Int32) (x7 : Int32) (S : xS) (r : xr), f_X12_puts_214 N  n x4 x7 S = some r → ES l w g M_X12_puts 214 [(0, .ref (w.2.1 + 503)), (4, .int x4), (7, .int x7)] [] S r := by
  intro n
  induction n with
  | zero => intro x4 x7 S r hf; cases hf
  | succ n ih =>
    intro x4 x7 S r hf
    rw [f_X12_puts_214.eq_2] at hf
    refine es_l (pc' := 218) (ls' := [(0, .ref (w.2.1 + 503)), (4, .int x4), (7, .int x7)]) (st' := [.int x4, .int x7]) (fun _ _ k => e_iload dX12_puts_214 2 rfl (e_iload dX12_puts_216 1 rfl k)) ?_
    refine es_br (c := x4 ≤ x7) (tgt := 238) (pf := 221) (st' := []) (fun _ _ a b => e_icmp_ge dX12_puts_218 rfl a b) (fun c92 => ?_) (fun c92 => ?_)
    · rw [if_pos c92] at hf
      refine es_sub [0] rfl ?_
      exact t_X12_puts_238 N S r hf
    · rw [if_neg c92] at hf
      refine es_l (pc' := 223) (ls' := [(0, .ref (w.2.1 + 503)), (4, .int x4), (7, .int x7)]) (st' := [.ref (w.2.1 + 503), .ref (w.2.1 + 503)]) (fun _ _ k => e_aload_n dX12_puts_221 0 rfl (e_aload_n dX12_puts_222 0 rfl k)) ?_
      refine es_get (v := .ref (w.2.1 + 525)) xc_12 dX12_puts_223 fl_X12_127 (by decide) (by decide) (cel_503 _ _ _) rfl ?_
      refine es_l (pc' := 228) (ls' := [(0, .ref (w.2.1 + 503)), (4, .int x4), (7, .int x7)]) (st' := [.int x7, .ref (w.2.1 + 525), .ref (w.2.1 + 503)]) (fun _ _ k => e_iload dX12_puts_226 2 rfl k) ?_
      obtain ⟨g93, hf⟩ := xg hf
      refine es_iald (v := .int (S.1 525 x7.toNatClampNeg)) dX12_puts_228 (by decide) (cel_525 _ _ _) g93 rfl ?_
      refine es_callVV (as := [.int (S.1 525 x7.toNatClampNeg)]) (rest := []) hf xc_12 dX12_puts_229 cs_X12_puts_X12_emit ml_X12_278 im_X12_emit se_X12_emit rfl rfl (Nat.le_of_ble_eq_true rfl) (Nat.le_of_ble_eq_true rfl) (by decide) rfl (cel_503 _ _ _) (fun _ e => t_X12_emit N (S.1 525 x7.toNatClampNeg) S _ e) (by decide) (fun S94 hf => ?_)
      refine es_l (pc' := 214) (ls' := [(7, .int (x7 + 1)), (0, .ref (w.2.1 + 503)), (4, .int x4)]) (st' := []) (fun _ _ k => e_iinc (v := x7 + 1) (ls' := [(7, .int (x7 + 1)), (0, .ref (w.2.1 + 503)), (4, .int x4)]) dX12_puts_232 2 rfl rfl (by decide) rfl (e_goto (tgt := 214) dX12_puts_235 rfl k)) ?_
      refine es_sub [1, 2, 0] rfl ?_
      exact ih x4 (x7 + 1) S94 r hf
def f_X12_puts_77 (N : Nat)   (S : xS) : Option xr :=
  xcI (f_X12_wrong N S) (fun v97 S96 =>
  if xbo v97 then
  some (.inl (some (.inl v97)), S96)
  else none
  )
set_option maxRecDepth 100000 in
set_option maxHeartbeats 4000000 in
theorem t_X12_puts_77 {l : Launch} {w : xW} {g : Nat → xE} (N : Nat)    (S : xS) (r : xr) (hf : f_X12_puts_77 N   S = some r) : ES l w g M_X12_puts 77 [(0, .ref (w.2.1 + 503))] [] S r := by
  unfold f_X12_puts_77 at hf
  refine es_l (pc' := 78) (ls' := [(0, .ref (w.2.1 + 503))]) (st' := [.ref (w.2.1 + 503)]) (fun _ _ k => e_aload_n dX12_puts_77 0 rfl k) ?_
  refine es_callVI (as := []) (rest := []) hf xc_12 dX12_puts_78 cs_X12_puts_X12_wrong ml_X12_235 im_X12_wrong se_X12_wrong rfl rfl (Nat.le_of_ble_eq_true rfl) (Nat.le_of_ble_eq_true rfl) (by decide) rfl (cel_503 _ _ _) (fun _ e => t_X12_wrong N  S _ e) (by decide) (fun v97 S96 hf => ?_)
  obtain ⟨g98, hf⟩ := xg hf
  exact es_ireturn (ty := .boolean) dX12_puts_81 rfl (xbo_n g98) hf
def f_X12_puts_176 (N : Nat) (k23 : Int32 → Int32 → Int32 → Int32 → Int32 → Int32 → xS → Option xr) (x1 : Int32) (x2 : Int32) (x3 : Int32) (x4 : Int32) (x5 : Int32) (x6 : Int32) (S : xS) : Option xr :=
  k23 x1 x2 x3 x4 x5 x6 S
set_option maxRecDepth 100000 in
set_option maxHeartbeats 4000000 in
theorem t_X12_puts_176 {l : Launch} {w : xW} {g : Nat → xE} (N : Nat) (k23 : Int32 → Int32 → Int32 → Int32 → Int32 → Int32 → xS → Option xr) (hk23 : ∀ (x1 : Int32) (x2 : Int32) (x3 : Int32) (x4 : Int32) (x5 : Int32) (x6 : Int32) (S : xS) (r : xr), k23 x1 x2 x3 x4 x5 x6 S = some r → ES l w g M_X12_puts 23 [(0, .ref (w.2.1 + 503)), (1, .int x1), (2, .int x2), (3, .int x3), (4, .int x4), (5, .int x5), (6, .int x6)] [] S r) (x1 : Int32) (x2 : Int32) (x3 : Int32) (x4 : Int32) (x5 : Int32) (x6 : Int32) (S : xS) (r : xr) (hf : f_X12_puts_176 N k23 x1 x2 x3 x4 x5 x6 S = some r) : ES l w g M_X12_puts 176 [(0, .ref (w.2.1 + 503)), (1, .int x1), (2, .int x2), (3, .int x3), (4, .int x4), (5, .int x5), (6, .int x6)] [] S r := by
  unfold f_X12_puts_176 at hf
  refine es_l (pc' := 23) (ls' := [(0, .ref (w.2.1 + 503)), (1, .int x1), (2, .int x2), (3, .int x3), (4, .int x4), (5, .int x5), (6, .int x6)]) (st' := []) (fun _ _ k => e_goto (tgt := 23) dX12_puts_176 rfl k) ?_
  exact hk23 x1 x2 x3 x4 x5 x6 S r hf
def f_X12_puts_150 (N : Nat) (k23 : Int32 → Int32 → Int32 → Int32 → Int32 → Int32 → xS → Option xr) (x1 : Int32) (x2 : Int32) (x3 : Int32) (x4 : Int32) (x5 : Int32) (S : xS) : Option xr :=
  xcI (f_X12_isSign N 44 S) (fun v100 S99 =>
  if v100 = 0 then
    f_X12_puts_176 N k23 x1 x2 x3 (x4 + 1) x5 v100 S99
  else
    f_X12_puts_176 N k23 x1 x2 x3 (x4 + 1) x5 v100 (sI S99 503 20 ((S99.1 503 20) + 1))
  )
set_option maxRecDepth 100000 in
set_option maxHeartbeats 4000000 in
theorem t_X12_puts_150 {l : Launch} {w : xW} {g : Nat → xE} (N : Nat) (k23 : Int32 → Int32 → Int32 → Int32 → Int32 → Int32 → xS → Option xr) (hk23 : ∀ (x1 : Int32) (x2 : Int32) (x3 : Int32) (x4 : Int32) (x5 : Int32) (x6 : Int32) (S : xS) (r : xr), k23 x1 x2 x3 x4 x5 x6 S = some r → ES l w g M_X12_puts 23 [(0, .ref (w.2.1 + 503)), (1, .int x1), (2, .int x2), (3, .int x3), (4, .int x4), (5, .int x5), (6, .int x6)] [] S r) (x1 : Int32) (x2 : Int32) (x3 : Int32) (x4 : Int32) (x5 : Int32) (S : xS) (r : xr) (hf : f_X12_puts_150 N k23 x1 x2 x3 x4 x5 S = some r) : ES l w g M_X12_puts 150 [(0, .ref (w.2.1 + 503)), (1, .int x1), (2, .int x2), (3, .int x3), (4, .int x4), (5, .int x5)] [] S r := by
  unfold f_X12_puts_150 at hf
  refine es_l (pc' := 156) (ls' := [(4, .int (x4 + 1)), (0, .ref (w.2.1 + 503)), (1, .int x1), (2, .int x2), (3, .int x3), (5, .int x5)]) (st' := [.int 44, .ref (w.2.1 + 503)]) (fun _ _ k => e_iinc (v := x4 + 1) (ls' := [(4, .int (x4 + 1)), (0, .ref (w.2.1 + 503)), (1, .int x1), (2, .int x2), (3, .int x3), (5, .int x5)]) dX12_puts_150 4 rfl rfl (by decide) rfl (e_aload_n dX12_puts_153 1 rfl (e_bipush (v := 44) dX12_puts_154 (by decide) k))) ?_
  refine es_callVI (as := [.int 44]) (rest := []) hf xc_12 dX12_puts_156 cs_X12_puts_X12_isSign ml_X12_232 im_X12_isSign se_X12_isSign rfl rfl (Nat.le_of_ble_eq_true rfl) (Nat.le_of_ble_eq_true rfl) (by decide) rfl (cel_503 _ _ _) (fun _ e => t_X12_isSign N 44 S _ e) (by decide) (fun v100 S99 hf => ?_)
  refine es_l (pc' := 163) (ls' := [(6, .int v100), (4, .int (x4 + 1)), (0, .ref (w.2.1 + 503)), (1, .int x1), (2, .int x2), (3, .int x3), (5, .int x5)]) (st' := [.int v100]) (fun _ _ k => e_istore (ls' := [(6, .int v100), (4, .int (x4 + 1)), (0, .ref (w.2.1 + 503)), (1, .int x1), (2, .int x2), (3, .int x3), (5, .int x5)]) dX12_puts_159 (by decide) rfl (e_iload dX12_puts_161 0 rfl k)) ?_
  refine es_br (c := v100 = 0) (tgt := 176) (pf := 166) (st' := []) (fun _ _ a b => e_if_eq dX12_puts_163 rfl a b) (fun c101 => ?_) (fun c101 => ?_)
  · rw [if_pos c101] at hf
    refine es_sub [2, 3, 4, 5, 1, 6, 0] rfl ?_
    exact t_X12_puts_176 N k23 hk23 x1 x2 x3 (x4 + 1) x5 v100 S99 r hf
  · rw [if_neg c101] at hf
    refine es_l (pc' := 168) (ls' := [(6, .int v100), (4, .int (x4 + 1)), (0, .ref (w.2.1 + 503)), (1, .int x1), (2, .int x2), (3, .int x3), (5, .int x5)]) (st' := [.ref (w.2.1 + 503), .ref (w.2.1 + 503)]) (fun _ _ k => e_aload_n dX12_puts_166 2 rfl (e_dup dX12_puts_167 rfl k)) ?_
    refine es_get (v := .int (S99.1 503 20)) xc_12 dX12_puts_168 fl_X12_72 (by decide) (by decide) (cel_503 _ _ _) rfl ?_
    refine es_l (pc' := 173) (ls' := [(6, .int v100), (4, .int (x4 + 1)), (0, .ref (w.2.1 + 503)), (1, .int x1), (2, .int x2), (3, .int x3), (5, .int x5)]) (st' := [.int ((S99.1 503 20) + 1), .ref (w.2.1 + 503)]) (fun _ _ k => e_iconst (v := 1) dX12_puts_171 (by decide) (e_iadd dX12_puts_172 k)) ?_
    refine es_put xc_12 dX12_puts_173 fl_X12_72 (by decide) (by decide) (by decide) (cel_503 _ _ _) rfl rfl rfl rfl ?_
    refine es_sub [2, 3, 4, 5, 1, 6, 0] rfl ?_
    exact t_X12_puts_176 N k23 hk23 x1 x2 x3 (x4 + 1) x5 v100 (sI S99 503 20 ((S99.1 503 20) + 1)) r hf
def f_X12_puts_59 (N : Nat) (k23 : Int32 → Int32 → Int32 → Int32 → Int32 → Int32 → xS → Option xr) (x1 : Int32) (x2 : Int32) (x3 : Int32) (x4 : Int32) (x5 : Int32) (s0 : Int32) (S : xS) : Option xr :=
  if s0 < 0 then
    f_X12_puts_77 N S
  else
    if ((x5 >>> (s0 &&& 31)) &&& 1) = 1 then
      f_X12_puts_77 N S
    else
      xcI (f_X12_sign N 61 (sI S 503 20 ((S.1 503 20) + 1))) (fun v105 S104 =>
      if v105 = 0 then
        some (.inl (some (.inl 0)), S104)
      else
        if x2 = 0 then
          xcI (f_X12_inline N S104) (fun v109 S108 =>
          if v109 = 0 then
            some (.inl (some (.inl 0)), S108)
          else
            if xin x4 8 then
            f_X12_puts_150 N k23 x1 x2 x3 x4 (x5 ||| (1 <<< (s0 &&& 31))) (sI S108 525 x4.toNatClampNeg s0)
            else none
          )
        else
          xcV (f_X12_emit N s0 S104) (fun S112 =>
          xcI (f_X12_measured N x1 S112) (fun v115 S114 =>
          if v115 = 0 then
            some (.inl (some (.inl 0)), S114)
          else
            f_X12_puts_150 N k23 x1 x2 x3 x4 (x5 ||| (1 <<< (s0 &&& 31))) S114
          )
          )
      )
set_option maxRecDepth 100000 in
set_option maxHeartbeats 4000000 in
theorem t_X12_puts_59 {l : Launch} {w : xW} {g : Nat → xE} (N : Nat) (k23 : Int32 → Int32 → Int32 → Int32 → Int32 → Int32 → xS → Option xr) (hk23 : ∀ (x1 : Int32) (x2 : Int32) (x3 : Int32) (x4 : Int32) (x5 : Int32) (x6 : Int32) (S : xS) (r : xr), k23 x1 x2 x3 x4 x5 x6 S = some r → ES l w g M_X12_puts 23 [(0, .ref (w.2.1 + 503)), (1, .int x1), (2, .int x2), (3, .int x3), (4, .int x4), (5, .int x5), (6, .int x6)] [] S r) (x1 : Int32) (x2 : Int32) (x3 : Int32) (x4 : Int32) (x5 : Int32) (s0 : Int32) (S : xS) (r : xr) (hf : f_X12_puts_59 N k23 x1 x2 x3 x4 x5 s0 S = some r) : ES l w g M_X12_puts 59 [(0, .ref (w.2.1 + 503)), (1, .int x1), (2, .int x2), (3, .int x3), (4, .int x4), (5, .int x5)] [.int s0] S r := by
  unfold f_X12_puts_59 at hf
  refine es_l (pc' := 63) (ls' := [(7, .int s0), (0, .ref (w.2.1 + 503)), (1, .int x1), (2, .int x2), (3, .int x3), (4, .int x4), (5, .int x5)]) (st' := [.int s0]) (fun _ _ k => e_istore (ls' := [(7, .int s0), (0, .ref (w.2.1 + 503)), (1, .int x1), (2, .int x2), (3, .int x3), (4, .int x4), (5, .int x5)]) dX12_puts_59 (by decide) rfl (e_iload dX12_puts_61 0 rfl k)) ?_
  refine es_br (c := s0 < 0) (tgt := 77) (pf := 66) (st' := []) (fun _ _ a b => e_if_lt dX12_puts_63 rfl a b) (fun c102 => ?_) (fun c102 => ?_)
  · rw [if_pos c102] at hf
    refine es_sub [1] rfl ?_
    exact t_X12_puts_77 N S r hf
  · rw [if_neg c102] at hf
    refine es_l (pc' := 74) (ls' := [(7, .int s0), (0, .ref (w.2.1 + 503)), (1, .int x1), (2, .int x2), (3, .int x3), (4, .int x4), (5, .int x5)]) (st' := [.int 1, .int ((x5 >>> (s0 &&& 31)) &&& 1)]) (fun _ _ k => e_iload dX12_puts_66 6 rfl (e_iload dX12_puts_68 0 rfl (e_ishr dX12_puts_70 (e_iconst (v := 1) dX12_puts_71 (by decide) (e_iand dX12_puts_72 (e_iconst (v := 1) dX12_puts_73 (by decide) k)))))) ?_
    refine es_br (c := ((x5 >>> (s0 &&& 31)) &&& 1) = 1) (tgt := 77) (pf := 82) (st' := []) (fun _ _ a b => e_icmp_ne dX12_puts_74 rfl b a) (fun c103 => ?_) (fun c103 => ?_)
    · rw [if_pos c103] at hf
      refine es_sub [1] rfl ?_
      exact t_X12_puts_77 N S r hf
    · rw [if_neg c103] at hf
      refine es_l (pc' := 93) (ls' := [(5, .int (x5 ||| (1 <<< (s0 &&& 31)))), (7, .int s0), (0, .ref (w.2.1 + 503)), (1, .int x1), (2, .int x2), (3, .int x3), (4, .int x4)]) (st' := [.ref (w.2.1 + 503), .ref (w.2.1 + 503)]) (fun _ _ k => e_iload dX12_puts_82 6 rfl (e_iconst (v := 1) dX12_puts_84 (by decide) (e_iload dX12_puts_85 0 rfl (e_ishl dX12_puts_87 (e_ior dX12_puts_88 (e_istore (ls' := [(5, .int (x5 ||| (1 <<< (s0 &&& 31)))), (7, .int s0), (0, .ref (w.2.1 + 503)), (1, .int x1), (2, .int x2), (3, .int x3), (4, .int x4)]) dX12_puts_89 (by decide) rfl (e_aload_n dX12_puts_91 2 rfl (e_dup dX12_puts_92 rfl k)))))))) ?_
      refine es_get (v := .int (S.1 503 20)) xc_12 dX12_puts_93 fl_X12_72 (by decide) (by decide) (cel_503 _ _ _) rfl ?_
      refine es_l (pc' := 98) (ls' := [(5, .int (x5 ||| (1 <<< (s0 &&& 31)))), (7, .int s0), (0, .ref (w.2.1 + 503)), (1, .int x1), (2, .int x2), (3, .int x3), (4, .int x4)]) (st' := [.int ((S.1 503 20) + 1), .ref (w.2.1 + 503)]) (fun _ _ k => e_iconst (v := 1) dX12_puts_96 (by decide) (e_iadd dX12_puts_97 k)) ?_
      refine es_put xc_12 dX12_puts_98 fl_X12_72 (by decide) (by decide) (by decide) (cel_503 _ _ _) rfl rfl rfl rfl ?_
      refine es_l (pc' := 104) (ls' := [(5, .int (x5 ||| (1 <<< (s0 &&& 31)))), (7, .int s0), (0, .ref (w.2.1 + 503)), (1, .int x1), (2, .int x2), (3, .int x3), (4, .int x4)]) (st' := [.int 61, .ref (w.2.1 + 503)]) (fun _ _ k => e_aload_n dX12_puts_101 2 rfl (e_bipush (v := 61) dX12_puts_102 (by decide) k)) ?_
      refine es_callVI (as := [.int 61]) (rest := []) hf xc_12 dX12_puts_104 cs_X12_puts_X12_sign ml_X12_299 im_X12_sign se_X12_sign rfl rfl (Nat.le_of_ble_eq_true rfl) (Nat.le_of_ble_eq_true rfl) (by decide) rfl (cel_503 _ _ _) (fun _ e => t_X12_sign N 61 (sI S 503 20 ((S.1 503 20) + 1)) _ e) (by decide) (fun v105 S104 hf => ?_)
      refine es_br (c := v105 = 0) (tgt := 110) (pf := 112) (st' := []) (fun _ _ a b => e_if_ne dX12_puts_107 rfl b a) (fun c106 => ?_) (fun c106 => ?_)
      · rw [if_pos c106] at hf
        refine es_l (pc' := 111) (ls' := [(5, .int (x5 ||| (1 <<< (s0 &&& 31)))), (7, .int s0), (0, .ref (w.2.1 + 503)), (1, .int x1), (2, .int x2), (3, .int x3), (4, .int x4)]) (st' := [.int 0]) (fun _ _ k => e_iconst (v := 0) dX12_puts_110 (by decide) k) ?_
        exact es_ireturn (ty := .boolean) dX12_puts_111 rfl rfl hf
      · rw [if_neg c106] at hf
        refine es_l (pc' := 113) (ls' := [(5, .int (x5 ||| (1 <<< (s0 &&& 31)))), (7, .int s0), (0, .ref (w.2.1 + 503)), (1, .int x1), (2, .int x2), (3, .int x3), (4, .int x4)]) (st' := [.int x2]) (fun _ _ k => e_iload_n dX12_puts_112 4 rfl k) ?_
        refine es_br (c := x2 = 0) (tgt := 132) (pf := 116) (st' := []) (fun _ _ a b => e_if_eq dX12_puts_113 rfl a b) (fun c107 => ?_) (fun c107 => ?_)
        · rw [if_pos c107] at hf
          refine es_l (pc' := 133) (ls' := [(5, .int (x5 ||| (1 <<< (s0 &&& 31)))), (7, .int s0), (0, .ref (w.2.1 + 503)), (1, .int x1), (2, .int x2), (3, .int x3), (4, .int x4)]) (st' := [.ref (w.2.1 + 503)]) (fun _ _ k => e_aload_n dX12_puts_132 2 rfl k) ?_
          refine es_callVI (as := []) (rest := []) hf xc_12 dX12_puts_133 cs_X12_puts_X12_inline ml_X12_318 im_X12_inline se_X12_inline rfl rfl (Nat.le_of_ble_eq_true rfl) (Nat.le_of_ble_eq_true rfl) (by decide) rfl (cel_503 _ _ _) (fun _ e => t_X12_inline N  S104 _ e) (by decide) (fun v109 S108 hf => ?_)
          refine es_br (c := v109 = 0) (tgt := 139) (pf := 141) (st' := []) (fun _ _ a b => e_if_ne dX12_puts_136 rfl b a) (fun c110 => ?_) (fun c110 => ?_)
          · rw [if_pos c110] at hf
            refine es_l (pc' := 140) (ls' := [(5, .int (x5 ||| (1 <<< (s0 &&& 31)))), (7, .int s0), (0, .ref (w.2.1 + 503)), (1, .int x1), (2, .int x2), (3, .int x3), (4, .int x4)]) (st' := [.int 0]) (fun _ _ k => e_iconst (v := 0) dX12_puts_139 (by decide) k) ?_
            exact es_ireturn (ty := .boolean) dX12_puts_140 rfl rfl hf
          · rw [if_neg c110] at hf
            refine es_l (pc' := 142) (ls' := [(5, .int (x5 ||| (1 <<< (s0 &&& 31)))), (7, .int s0), (0, .ref (w.2.1 + 503)), (1, .int x1), (2, .int x2), (3, .int x3), (4, .int x4)]) (st' := [.ref (w.2.1 + 503)]) (fun _ _ k => e_aload_n dX12_puts_141 2 rfl k) ?_
            refine es_get (v := .ref (w.2.1 + 525)) xc_12 dX12_puts_142 fl_X12_127 (by decide) (by decide) (cel_503 _ _ _) rfl ?_
            refine es_l (pc' := 149) (ls' := [(5, .int (x5 ||| (1 <<< (s0 &&& 31)))), (7, .int s0), (0, .ref (w.2.1 + 503)), (1, .int x1), (2, .int x2), (3, .int x3), (4, .int x4)]) (st' := [.int s0, .int x4, .ref (w.2.1 + 525)]) (fun _ _ k => e_iload dX12_puts_145 6 rfl (e_iload dX12_puts_147 1 rfl k)) ?_
            obtain ⟨g111, hf⟩ := xg hf
            refine es_iast dX12_puts_149 (by decide) (cel_525 _) g111 ?_
            refine es_sub [2, 3, 4, 5, 6, 0] rfl ?_
            exact t_X12_puts_150 N k23 hk23 x1 x2 x3 x4 (x5 ||| (1 <<< (s0 &&& 31))) (sI S108 525 x4.toNatClampNeg s0) r hf
        · rw [if_neg c107] at hf
          refine es_l (pc' := 119) (ls' := [(5, .int (x5 ||| (1 <<< (s0 &&& 31)))), (7, .int s0), (0, .ref (w.2.1 + 503)), (1, .int x1), (2, .int x2), (3, .int x3), (4, .int x4)]) (st' := [.int s0, .ref (w.2.1 + 503)]) (fun _ _ k => e_aload_n dX12_puts_116 2 rfl (e_iload dX12_puts_117 1 rfl k)) ?_
          refine es_callVV (as := [.int s0]) (rest := []) hf xc_12 dX12_puts_119 cs_X12_puts_X12_emit ml_X12_278 im_X12_emit se_X12_emit rfl rfl (Nat.le_of_ble_eq_true rfl) (Nat.le_of_ble_eq_true rfl) (by decide) rfl (cel_503 _ _ _) (fun _ e => t_X12_emit N s0 S104 _ e) (by decide) (fun S112 hf => ?_)
          refine es_l (pc' := 124) (ls' := [(5, .int (x5 ||| (1 <<< (s0 &&& 31)))), (7, .int s0), (0, .ref (w.2.1 + 503)), (1, .int x1), (2, .int x2), (3, .int x3), (4, .int x4)]) (st' := [.int x1, .ref (w.2.1 + 503)]) (fun _ _ k => e_aload_n dX12_puts_122 2 rfl (e_iload_n dX12_puts_123 3 rfl k)) ?_
          refine es_callVI (as := [.int x1]) (rest := []) hf xc_12 dX12_puts_124 cs_X12_puts_X12_measured ml_X12_311 im_X12_measured se_X12_measured rfl rfl (Nat.le_of_ble_eq_true rfl) (Nat.le_of_ble_eq_true rfl) (by decide) rfl (cel_503 _ _ _) (fun _ e => t_X12_measured N x1 S112 _ e) (by decide) (fun v115 S114 hf => ?_)
          refine es_br (c := v115 = 0) (tgt := 130) (pf := 150) (st' := []) (fun _ _ a b => e_if_ne dX12_puts_127 rfl b a) (fun c116 => ?_) (fun c116 => ?_)
          · rw [if_pos c116] at hf
            refine es_l (pc' := 131) (ls' := [(5, .int (x5 ||| (1 <<< (s0 &&& 31)))), (7, .int s0), (0, .ref (w.2.1 + 503)), (1, .int x1), (2, .int x2), (3, .int x3), (4, .int x4)]) (st' := [.int 0]) (fun _ _ k => e_iconst (v := 0) dX12_puts_130 (by decide) k) ?_
            exact es_ireturn (ty := .boolean) dX12_puts_131 rfl rfl hf
          · rw [if_neg c116] at hf
            refine es_sub [2, 3, 4, 5, 6, 0] rfl ?_
            exact t_X12_puts_150 N k23 hk23 x1 x2 x3 x4 (x5 ||| (1 <<< (s0 &&& 31))) S114 r hf
def f_X12_puts_23 (N : Nat)  : Nat → Int32 → Int32 → Int32 → Int32 → Int32 → Int32 → xS → Option xr
  | 0, _, _, _, _, _, _, _ => none
  | n + 1, x1, x2, x3, x4, x5, x6, S =>
  if x6 = 0 then
    if x2 = 0 then
      xcV (f_X12_emit N 103 S) (fun S119 =>
      xcV (f_X12_emit N x1 S119) (fun S121 =>
      xcV (f_X12_emit N x4 S121) (fun S123 =>
      f_X12_puts_214 N N x4 0 S123
      )
      )
      )
    else
      if xin x3 3000 then
      f_X12_puts_238 N (sI S 518 x3.toNatClampNeg x4)
      else none
  else
    if xin (S.1 503 20) 152 then
    if (S.1 514 ((S.1 503 20).toNatClampNeg)) = 1 then
      xcI (f_X12_fieldOf N x1 (S.2.1 516 ((S.1 503 20).toNatClampNeg)) S) (fun v129 S128 =>
      f_X12_puts_59 N (f_X12_puts_23 N n) x1 x2 x3 x4 x5 v129 S128
      )
    else
      f_X12_puts_59 N (f_X12_puts_23 N n) x1 x2 x3 x4 x5 ((-1)) S
    else none
set_option maxRecDepth 100000 in
set_option maxHeartbeats 4000000 in
theorem t_X12_puts_23 {l : Launch} {w : xW} {g : Nat → xE} (N : Nat)   : ∀ (n : Nat) (x1 : Int32) (x2 : Int32) (x3 : Int32) (x4 : Int32) (x5 : Int32) (x6 : Int32) (S : xS) (r : xr), f_X12_puts_23 N  n x1 x2 x3 x4 x5 x6 S = some r → ES l w g M_X12_puts 23 [(0, .ref (w.2.1 + 503)), (1, .int x1), (2, .int x2), (3, .int x3), (4, .int x4), (5, .int x5), (6, .int x6)] [] S r := by
  intro n
  induction n with
  | zero => intro x1 x2 x3 x4 x5 x6 S r hf; cases hf
  | succ n ih =>
    intro x1 x2 x3 x4 x5 x6 S r hf
    rw [f_X12_puts_23.eq_2] at hf
    refine es_l (pc' := 25) (ls' := [(0, .ref (w.2.1 + 503)), (1, .int x1), (2, .int x2), (3, .int x3), (4, .int x4), (5, .int x5), (6, .int x6)]) (st' := [.int x6]) (fun _ _ k => e_iload dX12_puts_23 6 rfl k) ?_
    refine es_br (c := x6 = 0) (tgt := 179) (pf := 28) (st' := []) (fun _ _ a b => e_if_eq dX12_puts_25 rfl a b) (fun c117 => ?_) (fun c117 => ?_)
    · rw [if_pos c117] at hf
      refine es_l (pc' := 180) (ls' := [(0, .ref (w.2.1 + 503)), (1, .int x1), (2, .int x2), (3, .int x3), (4, .int x4), (5, .int x5), (6, .int x6)]) (st' := [.int x2]) (fun _ _ k => e_iload_n dX12_puts_179 2 rfl k) ?_
      refine es_br (c := x2 = 0) (tgt := 194) (pf := 183) (st' := []) (fun _ _ a b => e_if_eq dX12_puts_180 rfl a b) (fun c118 => ?_) (fun c118 => ?_)
      · rw [if_pos c118] at hf
        refine es_l (pc' := 197) (ls' := [(0, .ref (w.2.1 + 503)), (1, .int x1), (2, .int x2), (3, .int x3), (4, .int x4), (5, .int x5), (6, .int x6)]) (st' := [.int 103, .ref (w.2.1 + 503)]) (fun _ _ k => e_aload_n dX12_puts_194 0 rfl (e_bipush (v := 103) dX12_puts_195 (by decide) k)) ?_
        refine es_callVV (as := [.int 103]) (rest := []) hf xc_12 dX12_puts_197 cs_X12_puts_X12_emit ml_X12_278 im_X12_emit se_X12_emit rfl rfl (Nat.le_of_ble_eq_true rfl) (Nat.le_of_ble_eq_true rfl) (by decide) rfl (cel_503 _ _ _) (fun _ e => t_X12_emit N 103 S _ e) (by decide) (fun S119 hf => ?_)
        refine es_l (pc' := 202) (ls' := [(0, .ref (w.2.1 + 503)), (1, .int x1), (2, .int x2), (3, .int x3), (4, .int x4), (5, .int x5), (6, .int x6)]) (st' := [.int x1, .ref (w.2.1 + 503)]) (fun _ _ k => e_aload_n dX12_puts_200 0 rfl (e_iload_n dX12_puts_201 1 rfl k)) ?_
        refine es_callVV (as := [.int x1]) (rest := []) hf xc_12 dX12_puts_202 cs_X12_puts_X12_emit ml_X12_278 im_X12_emit se_X12_emit rfl rfl (Nat.le_of_ble_eq_true rfl) (Nat.le_of_ble_eq_true rfl) (by decide) rfl (cel_503 _ _ _) (fun _ e => t_X12_emit N x1 S119 _ e) (by decide) (fun S121 hf => ?_)
        refine es_l (pc' := 208) (ls' := [(0, .ref (w.2.1 + 503)), (1, .int x1), (2, .int x2), (3, .int x3), (4, .int x4), (5, .int x5), (6, .int x6)]) (st' := [.int x4, .ref (w.2.1 + 503)]) (fun _ _ k => e_aload_n dX12_puts_205 0 rfl (e_iload dX12_puts_206 4 rfl k)) ?_
        refine es_callVV (as := [.int x4]) (rest := []) hf xc_12 dX12_puts_208 cs_X12_puts_X12_emit ml_X12_278 im_X12_emit se_X12_emit rfl rfl (Nat.le_of_ble_eq_true rfl) (Nat.le_of_ble_eq_true rfl) (by decide) rfl (cel_503 _ _ _) (fun _ e => t_X12_emit N x4 S121 _ e) (by decide) (fun S123 hf => ?_)
        refine es_l (pc' := 214) (ls' := [(7, .int 0), (0, .ref (w.2.1 + 503)), (1, .int x1), (2, .int x2), (3, .int x3), (4, .int x4), (5, .int x5), (6, .int x6)]) (st' := []) (fun _ _ k => e_iconst (v := 0) dX12_puts_211 (by decide) (e_istore (ls' := [(7, .int 0), (0, .ref (w.2.1 + 503)), (1, .int x1), (2, .int x2), (3, .int x3), (4, .int x4), (5, .int x5), (6, .int x6)]) dX12_puts_212 (by decide) rfl k)) ?_
        refine es_sub [1, 5, 0] rfl ?_
        exact t_X12_puts_214 N N x4 0 S123 r hf
      · rw [if_neg c118] at hf
        refine es_l (pc' := 184) (ls' := [(0, .ref (w.2.1 + 503)), (1, .int x1), (2, .int x2), (3, .int x3), (4, .int x4), (5, .int x5), (6, .int x6)]) (st' := [.ref (w.2.1 + 503)]) (fun _ _ k => e_aload_n dX12_puts_183 0 rfl k) ?_
        refine es_get (v := .ref (w.2.1 + 518)) xc_12 dX12_puts_184 fl_X12_85 (by decide) (by decide) (cel_503 _ _ _) rfl ?_
        refine es_l (pc' := 190) (ls' := [(0, .ref (w.2.1 + 503)), (1, .int x1), (2, .int x2), (3, .int x3), (4, .int x4), (5, .int x5), (6, .int x6)]) (st' := [.int x4, .int x3, .ref (w.2.1 + 518)]) (fun _ _ k => e_iload_n dX12_puts_187 3 rfl (e_iload dX12_puts_188 4 rfl k)) ?_
        obtain ⟨g125, hf⟩ := xg hf
        refine es_iast dX12_puts_190 (by decide) (cel_518 _) g125 ?_
        refine es_l (pc' := 238) (ls' := [(0, .ref (w.2.1 + 503)), (1, .int x1), (2, .int x2), (3, .int x3), (4, .int x4), (5, .int x5), (6, .int x6)]) (st' := []) (fun _ _ k => e_goto (tgt := 238) dX12_puts_191 rfl k) ?_
        refine es_sub [0] rfl ?_
        exact t_X12_puts_238 N (sI S 518 x3.toNatClampNeg x4) r hf
    · rw [if_neg c117] at hf
      refine es_l (pc' := 29) (ls' := [(0, .ref (w.2.1 + 503)), (1, .int x1), (2, .int x2), (3, .int x3), (4, .int x4), (5, .int x5), (6, .int x6)]) (st' := [.ref (w.2.1 + 503)]) (fun _ _ k => e_aload_n dX12_puts_28 0 rfl k) ?_
      refine es_get (v := .ref (w.2.1 + 514)) xc_12 dX12_puts_29 fl_X12_57 (by decide) (by decide) (cel_503 _ _ _) rfl ?_
      refine es_l (pc' := 33) (ls' := [(0, .ref (w.2.1 + 503)), (1, .int x1), (2, .int x2), (3, .int x3), (4, .int x4), (5, .int x5), (6, .int x6)]) (st' := [.ref (w.2.1 + 503), .ref (w.2.1 + 514)]) (fun _ _ k => e_aload_n dX12_puts_32 0 rfl k) ?_
      refine es_get (v := .int (S.1 503 20)) xc_12 dX12_puts_33 fl_X12_72 (by decide) (by decide) (cel_503 _ _ _) rfl ?_
      obtain ⟨g126, hf⟩ := xg hf
      refine es_iald (v := .int (S.1 514 ((S.1 503 20).toNatClampNeg))) dX12_puts_36 (by decide) (cel_514 _ _ _) g126 rfl ?_
      refine es_l (pc' := 38) (ls' := [(0, .ref (w.2.1 + 503)), (1, .int x1), (2, .int x2), (3, .int x3), (4, .int x4), (5, .int x5), (6, .int x6)]) (st' := [.int 1, .int (S.1 514 ((S.1 503 20).toNatClampNeg))]) (fun _ _ k => e_iconst (v := 1) dX12_puts_37 (by decide) k) ?_
      refine es_br (c := (S.1 514 ((S.1 503 20).toNatClampNeg)) = 1) (tgt := 41) (pf := 58) (st' := []) (fun _ _ a b => e_icmp_ne dX12_puts_38 rfl b a) (fun c127 => ?_) (fun c127 => ?_)
      · rw [if_pos c127] at hf
        refine es_l (pc' := 44) (ls' := [(0, .ref (w.2.1 + 503)), (1, .int x1), (2, .int x2), (3, .int x3), (4, .int x4), (5, .int x5), (6, .int x6)]) (st' := [.ref (w.2.1 + 503), .int x1, .ref (w.2.1 + 503)]) (fun _ _ k => e_aload_n dX12_puts_41 0 rfl (e_iload_n dX12_puts_42 1 rfl (e_aload_n dX12_puts_43 0 rfl k))) ?_
        refine es_get (v := .ref (w.2.1 + 516)) xc_12 dX12_puts_44 fl_X12_63 (by decide) (by decide) (cel_503 _ _ _) rfl ?_
        refine es_l (pc' := 48) (ls' := [(0, .ref (w.2.1 + 503)), (1, .int x1), (2, .int x2), (3, .int x3), (4, .int x4), (5, .int x5), (6, .int x6)]) (st' := [.ref (w.2.1 + 503), .ref (w.2.1 + 516), .int x1, .ref (w.2.1 + 503)]) (fun _ _ k => e_aload_n dX12_puts_47 0 rfl k) ?_
        refine es_get (v := .int (S.1 503 20)) xc_12 dX12_puts_48 fl_X12_72 (by decide) (by decide) (cel_503 _ _ _) rfl ?_
        refine es_lald (v := .long (S.2.1 516 ((S.1 503 20).toNatClampNeg))) dX12_puts_51 (by decide) (cel_516 _ _ _) g126 rfl ?_
        refine es_callVI (as := [.int x1, .long (S.2.1 516 ((S.1 503 20).toNatClampNeg))]) (rest := []) hf xc_12 dX12_puts_52 cs_X12_puts_X12_fieldOf ml_X12_246 im_X12_fieldOf se_X12_fieldOf rfl rfl (Nat.le_of_ble_eq_true rfl) (Nat.le_of_ble_eq_true rfl) (by decide) rfl (cel_503 _ _ _) (fun _ e => t_X12_fieldOf N x1 (S.2.1 516 ((S.1 503 20).toNatClampNeg)) S _ e) (by decide) (fun v129 S128 hf => ?_)
        refine es_l (pc' := 59) (ls' := [(0, .ref (w.2.1 + 503)), (1, .int x1), (2, .int x2), (3, .int x3), (4, .int x4), (5, .int x5), (6, .int x6)]) (st' := [.int v129]) (fun _ _ k => e_goto (tgt := 59) dX12_puts_55 rfl k) ?_
        refine es_sub [0, 1, 2, 3, 4, 5] rfl ?_
        exact t_X12_puts_59 N (f_X12_puts_23 N n) ih x1 x2 x3 x4 x5 v129 S128 r hf
      · rw [if_neg c127] at hf
        refine es_l (pc' := 59) (ls' := [(0, .ref (w.2.1 + 503)), (1, .int x1), (2, .int x2), (3, .int x3), (4, .int x4), (5, .int x5), (6, .int x6)]) (st' := [.int ((-1))]) (fun _ _ k => e_iconst (v := (-1)) dX12_puts_58 (by decide) k) ?_
        refine es_sub [0, 1, 2, 3, 4, 5] rfl ?_
        exact t_X12_puts_59 N (f_X12_puts_23 N n) ih x1 x2 x3 x4 x5 ((-1)) S r hf
def f_X12_puts_20 (N : Nat)  (x1 : Int32) (x2 : Int32) (x3 : Int32) (x4 : Int32) (x5 : Int32) (S : xS) : Option xr :=
  f_X12_puts_23 N N x1 x2 x3 x4 x5 1 S
set_option maxRecDepth 100000 in
set_option maxHeartbeats 4000000 in
theorem t_X12_puts_20 {l : Launch} {w : xW} {g : Nat → xE} (N : Nat)   (x1 : Int32) (x2 : Int32) (x3 : Int32) (x4 : Int32) (x5 : Int32) (S : xS) (r : xr) (hf : f_X12_puts_20 N  x1 x2 x3 x4 x5 S = some r) : ES l w g M_X12_puts 20 [(0, .ref (w.2.1 + 503)), (1, .int x1), (2, .int x2), (3, .int x3), (4, .int x4), (5, .int x5)] [] S r := by
  unfold f_X12_puts_20 at hf
  refine es_l (pc' := 23) (ls' := [(6, .int 1), (0, .ref (w.2.1 + 503)), (1, .int x1), (2, .int x2), (3, .int x3), (4, .int x4), (5, .int x5)]) (st' := []) (fun _ _ k => e_iconst (v := 1) dX12_puts_20 (by decide) (e_istore (ls' := [(6, .int 1), (0, .ref (w.2.1 + 503)), (1, .int x1), (2, .int x2), (3, .int x3), (4, .int x4), (5, .int x5)]) dX12_puts_21 (by decide) rfl k)) ?_
  refine es_sub [1, 2, 3, 4, 5, 6, 0] rfl ?_
  exact t_X12_puts_23 N N x1 x2 x3 x4 x5 1 S r hf
def f_X12_puts (N : Nat) (x1 : Int32) (x2 : Int32) (S : xS) : Option xr :=
  if x2 = 0 then
    f_X12_puts_20 N x1 x2 (S.1 503 25) 0 0 S
  else
    xcV (f_X12_emit N 0 S) (fun S131 =>
    f_X12_puts_20 N x1 x2 (S.1 503 25) 0 0 S131
    )
set_option maxRecDepth 100000 in
set_option maxHeartbeats 4000000 in
theorem t_X12_puts {l : Launch} {w : xW} {g : Nat → xE} (N : Nat) (x1 : Int32) (x2 : Int32) (S : xS) (r : xr) (hf : f_X12_puts N x1 x2 S = some r) : ES l w g M_X12_puts 0 (lv_args 0 [.ref (w.2.1 + 503), .int x1, .int x2]) [] S r := by
  show ES l w g M_X12_puts 0 [(0, .ref (w.2.1 + 503)), (1, .int x1), (2, .int x2)] [] S r
  unfold f_X12_puts at hf
  refine es_l (pc' := 1) (ls' := [(0, .ref (w.2.1 + 503)), (1, .int x1), (2, .int x2)]) (st' := [.ref (w.2.1 + 503)]) (fun _ _ k => e_aload_n dX12_puts_0 0 rfl k) ?_
  refine es_get (v := .int (S.1 503 25)) xc_12 dX12_puts_1 fl_X12_88 (by decide) (by decide) (cel_503 _ _ _) rfl ?_
  refine es_l (pc' := 12) (ls' := [(5, .int 0), (4, .int 0), (3, .int (S.1 503 25)), (0, .ref (w.2.1 + 503)), (1, .int x1), (2, .int x2)]) (st' := [.int x2]) (fun _ _ k => e_istore_n (ls' := [(3, .int (S.1 503 25)), (0, .ref (w.2.1 + 503)), (1, .int x1), (2, .int x2)]) dX12_puts_4 (by decide) rfl (e_iconst (v := 0) dX12_puts_5 (by decide) (e_istore (ls' := [(4, .int 0), (3, .int (S.1 503 25)), (0, .ref (w.2.1 + 503)), (1, .int x1), (2, .int x2)]) dX12_puts_6 (by decide) rfl (e_iconst (v := 0) dX12_puts_8 (by decide) (e_istore (ls' := [(5, .int 0), (4, .int 0), (3, .int (S.1 503 25)), (0, .ref (w.2.1 + 503)), (1, .int x1), (2, .int x2)]) dX12_puts_9 (by decide) rfl (e_iload_n dX12_puts_11 5 rfl k)))))) ?_
  refine es_br (c := x2 = 0) (tgt := 20) (pf := 15) (st' := []) (fun _ _ a b => e_if_eq dX12_puts_12 rfl a b) (fun c130 => ?_) (fun c130 => ?_)
  · rw [if_pos c130] at hf
    refine es_sub [3, 4, 5, 2, 1, 0] rfl ?_
    exact t_X12_puts_20 N x1 x2 (S.1 503 25) 0 0 S r hf
  · rw [if_neg c130] at hf
    refine es_l (pc' := 17) (ls' := [(5, .int 0), (4, .int 0), (3, .int (S.1 503 25)), (0, .ref (w.2.1 + 503)), (1, .int x1), (2, .int x2)]) (st' := [.int 0, .ref (w.2.1 + 503)]) (fun _ _ k => e_aload_n dX12_puts_15 3 rfl (e_iconst (v := 0) dX12_puts_16 (by decide) k)) ?_
    refine es_callVV (as := [.int 0]) (rest := []) hf xc_12 dX12_puts_17 cs_X12_puts_X12_emit ml_X12_278 im_X12_emit se_X12_emit rfl rfl (Nat.le_of_ble_eq_true rfl) (Nat.le_of_ble_eq_true rfl) (by decide) rfl (cel_503 _ _ _) (fun _ e => t_X12_emit N 0 S _ e) (by decide) (fun S131 hf => ?_)
    refine es_sub [3, 4, 5, 2, 1, 0] rfl ?_
    exact t_X12_puts_20 N x1 x2 (S.1 503 25) 0 0 S131 r hf
