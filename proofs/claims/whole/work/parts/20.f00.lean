def f_X0_begin_115 (N : Nat)  : Nat → Int32 → Nat → Int32 → Int32 → xS → Option xr
  | 0, _, _, _, _, _ => none
  | n + 1, x1, a5, x6, x7, S =>
  if x6 ≤ x7 then
    if xin x1 10 then
    some (.inl none, sI (sI S 501 x1.toNatClampNeg x6) 502 x1.toNatClampNeg ((-1)))
    else none
  else
    if xin x1 10 then
    if xReg480 a5 then
    if xin x7 64 then
    if xin (S.1 a5 x7.toNatClampNeg) 64 then
    f_X0_begin_115 N n x1 a5 x6 (x7 + 1) (sI S (491 + x1.toNatClampNeg) x7.toNatClampNeg (S.1 96 ((S.1 a5 x7.toNatClampNeg).toNatClampNeg)))
    else none
    else none
    else none
    else none
set_option maxRecDepth 100000 in
set_option maxHeartbeats 4000000 in
theorem t_X0_begin_115 {l : Launch} {w : xW} {g : Nat → xE} (N : Nat)   : ∀ (n : Nat) (x1 : Int32) (a5 : Nat) (x6 : Int32) (x7 : Int32) (S : xS) (r : xr), f_X0_begin_115 N  n x1 a5 x6 x7 S = some r → ES l w g M_X0_begin 115 [(0, .ref (w.2.1 + 478)), (1, .int x1), (5, .ref (w.2.1 + a5)), (6, .int x6), (7, .int x7)] [] S r := by
  intro n
  induction n with
  | zero => intro x1 a5 x6 x7 S r hf; cases hf
  | succ n ih =>
    intro x1 a5 x6 x7 S r hf
    rw [f_X0_begin_115.eq_2] at hf
    refine es_l (pc' := 119) (ls' := [(0, .ref (w.2.1 + 478)), (1, .int x1), (5, .ref (w.2.1 + a5)), (6, .int x6), (7, .int x7)]) (st' := [.int x6, .int x7]) (fun _ _ k => e_iload dX0_begin_115 4 rfl (e_iload dX0_begin_117 3 rfl k)) ?_
    refine es_br (c := x6 ≤ x7) (tgt := 150) (pf := 122) (st' := []) (fun _ _ a b => e_icmp_ge dX0_begin_119 rfl a b) (fun c39 => ?_) (fun c39 => ?_)
    · rw [if_pos c39] at hf
      refine es_l (pc' := 151) (ls' := [(0, .ref (w.2.1 + 478)), (1, .int x1), (5, .ref (w.2.1 + a5)), (6, .int x6), (7, .int x7)]) (st' := [.ref (w.2.1 + 478)]) (fun _ _ k => e_aload_n dX0_begin_150 0 rfl k) ?_
      refine es_get (v := .ref (w.2.1 + 501)) xc_0 dX0_begin_151 fl_X0_19 (by decide) (by decide) (cel_478 _ _ _) rfl ?_
      refine es_l (pc' := 157) (ls' := [(0, .ref (w.2.1 + 478)), (1, .int x1), (5, .ref (w.2.1 + a5)), (6, .int x6), (7, .int x7)]) (st' := [.int x6, .int x1, .ref (w.2.1 + 501)]) (fun _ _ k => e_iload_n dX0_begin_154 1 rfl (e_iload dX0_begin_155 3 rfl k)) ?_
      obtain ⟨g40, hf⟩ := xg hf
      refine es_iast dX0_begin_157 (by decide) (cel_501 _) g40 ?_
      refine es_l (pc' := 159) (ls' := [(0, .ref (w.2.1 + 478)), (1, .int x1), (5, .ref (w.2.1 + a5)), (6, .int x6), (7, .int x7)]) (st' := [.ref (w.2.1 + 478)]) (fun _ _ k => e_aload_n dX0_begin_158 0 rfl k) ?_
      refine es_get (v := .ref (w.2.1 + 502)) xc_0 dX0_begin_159 fl_X0_23 (by decide) (by decide) (cel_478 _ _ _) rfl ?_
      refine es_l (pc' := 164) (ls' := [(0, .ref (w.2.1 + 478)), (1, .int x1), (5, .ref (w.2.1 + a5)), (6, .int x6), (7, .int x7)]) (st' := [.int ((-1)), .int x1, .ref (w.2.1 + 502)]) (fun _ _ k => e_iload_n dX0_begin_162 1 rfl (e_iconst (v := (-1)) dX0_begin_163 (by decide) k)) ?_
      refine es_iast dX0_begin_164 (by decide) (cel_502 _) g40 ?_
      exact es_return dX0_begin_165 rfl hf
    · rw [if_neg c39] at hf
      refine es_l (pc' := 123) (ls' := [(0, .ref (w.2.1 + 478)), (1, .int x1), (5, .ref (w.2.1 + a5)), (6, .int x6), (7, .int x7)]) (st' := [.ref (w.2.1 + 478)]) (fun _ _ k => e_aload_n dX0_begin_122 0 rfl k) ?_
      refine es_get (v := .ref (w.2.1 + 490)) xc_0 dX0_begin_123 fl_X0_16 (by decide) (by decide) (cel_478 _ _ _) rfl ?_
      refine es_l (pc' := 127) (ls' := [(0, .ref (w.2.1 + 478)), (1, .int x1), (5, .ref (w.2.1 + a5)), (6, .int x6), (7, .int x7)]) (st' := [.int x1, .ref (w.2.1 + 490)]) (fun _ _ k => e_iload_n dX0_begin_126 1 rfl k) ?_
      obtain ⟨g41, hf⟩ := xg hf
      refine es_aald (v := .ref (w.2.1 + (491 + x1.toNatClampNeg))) rfl dX0_begin_127 (by decide) (cel_490 _ _ _) g41 rfl ?_
      refine es_l (pc' := 131) (ls' := [(0, .ref (w.2.1 + 478)), (1, .int x1), (5, .ref (w.2.1 + a5)), (6, .int x6), (7, .int x7)]) (st' := [.ref (w.2.1 + 478), .int x7, .ref (w.2.1 + (491 + x1.toNatClampNeg))]) (fun _ _ k => e_iload dX0_begin_128 4 rfl (e_aload_n dX0_begin_130 0 rfl k)) ?_
      refine es_get (v := .ref (w.2.1 + 29)) xc_0 dX0_begin_131 fl_X0_26 (by decide) (by decide) (cel_478 _ _ _) rfl ?_
      refine es_get (v := .ref (w.2.1 + 96)) xc_10 dX0_begin_134 fl_X0_35 (by decide) (by decide) (cel_29 _ _ _) rfl ?_
      refine es_l (pc' := 141) (ls' := [(0, .ref (w.2.1 + 478)), (1, .int x1), (5, .ref (w.2.1 + a5)), (6, .int x6), (7, .int x7)]) (st' := [.int x7, .ref (w.2.1 + a5), .ref (w.2.1 + 96), .int x7, .ref (w.2.1 + (491 + x1.toNatClampNeg))]) (fun _ _ k => e_aload dX0_begin_137 2 rfl (e_iload dX0_begin_139 4 rfl k)) ?_
      obtain ⟨g42, hf⟩ := xg hf
      obtain ⟨g43, hf⟩ := xg hf
      refine es_iald (v := .int (S.1 a5 x7.toNatClampNeg)) dX0_begin_141 (xReg480_lt g42) (cel_r480 g42 _ _ _) g43 rfl ?_
      obtain ⟨g44, hf⟩ := xg hf
      refine es_iald (v := .int (S.1 96 ((S.1 a5 x7.toNatClampNeg).toNatClampNeg))) dX0_begin_142 (by decide) (cel_96 _ _ _) g44 rfl ?_
      refine es_iast dX0_begin_143 (xReg491_lt (xReg491_at g41)) (cel_r491 (xReg491_at g41) _) g43 ?_
      refine es_l (pc' := 115) (ls' := [(7, .int (x7 + 1)), (0, .ref (w.2.1 + 478)), (1, .int x1), (5, .ref (w.2.1 + a5)), (6, .int x6)]) (st' := []) (fun _ _ k => e_iinc (v := x7 + 1) (ls' := [(7, .int (x7 + 1)), (0, .ref (w.2.1 + 478)), (1, .int x1), (5, .ref (w.2.1 + a5)), (6, .int x6)]) dX0_begin_144 4 rfl rfl (by decide) rfl (e_goto (tgt := 115) dX0_begin_147 rfl k)) ?_
      refine es_sub [1, 2, 3, 4, 0] rfl ?_
      exact ih x1 a5 x6 (x7 + 1) (sI S (491 + x1.toNatClampNeg) x7.toNatClampNeg (S.1 96 ((S.1 a5 x7.toNatClampNeg).toNatClampNeg))) r hf
def f_X0_begin_106 (N : Nat) (k14 : Int32 → Int64 → Int32 → Nat → Int32 → Int32 → xS → Option xr) (x1 : Int32) (y2 : Int64) (x4 : Int32) (a5 : Nat) (x6 : Int32) (x7 : Int32) (S : xS) : Option xr :=
  k14 x1 y2 x4 a5 x6 (x7 + 1) S
set_option maxRecDepth 100000 in
set_option maxHeartbeats 4000000 in
theorem t_X0_begin_106 {l : Launch} {w : xW} {g : Nat → xE} (N : Nat) (k14 : Int32 → Int64 → Int32 → Nat → Int32 → Int32 → xS → Option xr) (hk14 : ∀ (x1 : Int32) (y2 : Int64) (x4 : Int32) (a5 : Nat) (x6 : Int32) (x7 : Int32) (S : xS) (r : xr), k14 x1 y2 x4 a5 x6 x7 S = some r → ES l w g M_X0_begin 14 [(0, .ref (w.2.1 + 478)), (1, .int x1), (2, .long y2), (4, .int x4), (5, .ref (w.2.1 + a5)), (6, .int x6), (7, .int x7)] [] S r) (x1 : Int32) (y2 : Int64) (x4 : Int32) (a5 : Nat) (x6 : Int32) (x7 : Int32) (S : xS) (r : xr) (hf : f_X0_begin_106 N k14 x1 y2 x4 a5 x6 x7 S = some r) : ES l w g M_X0_begin 106 [(0, .ref (w.2.1 + 478)), (1, .int x1), (2, .long y2), (4, .int x4), (5, .ref (w.2.1 + a5)), (6, .int x6), (7, .int x7)] [] S r := by
  unfold f_X0_begin_106 at hf
  refine es_l (pc' := 14) (ls' := [(7, .int (x7 + 1)), (0, .ref (w.2.1 + 478)), (1, .int x1), (2, .long y2), (4, .int x4), (5, .ref (w.2.1 + a5)), (6, .int x6)]) (st' := []) (fun _ _ k => e_iinc (v := x7 + 1) (ls' := [(7, .int (x7 + 1)), (0, .ref (w.2.1 + 478)), (1, .int x1), (2, .long y2), (4, .int x4), (5, .ref (w.2.1 + a5)), (6, .int x6)]) dX0_begin_106 6 rfl rfl (by decide) rfl (e_goto (tgt := 14) dX0_begin_109 rfl k)) ?_
  refine es_sub [1, 2, 3, 4, 5, 6, 0] rfl ?_
  exact hk14 x1 y2 x4 a5 x6 (x7 + 1) S r hf
def f_X0_begin_96 (N : Nat) (k14 : Int32 → Int64 → Int32 → Nat → Int32 → Int32 → xS → Option xr) (x1 : Int32) (y2 : Int64) (x4 : Int32) (a5 : Nat) (x6 : Int32) (x7 : Int32) (x8 : Int32) (S : xS) : Option xr :=
  if xReg480 a5 then
  if xin x8 64 then
  f_X0_begin_106 N k14 x1 y2 x4 a5 (x6 + 1) x7 (sI S a5 x8.toNatClampNeg x7)
  else none
  else none
set_option maxRecDepth 100000 in
set_option maxHeartbeats 4000000 in
theorem t_X0_begin_96 {l : Launch} {w : xW} {g : Nat → xE} (N : Nat) (k14 : Int32 → Int64 → Int32 → Nat → Int32 → Int32 → xS → Option xr) (hk14 : ∀ (x1 : Int32) (y2 : Int64) (x4 : Int32) (a5 : Nat) (x6 : Int32) (x7 : Int32) (S : xS) (r : xr), k14 x1 y2 x4 a5 x6 x7 S = some r → ES l w g M_X0_begin 14 [(0, .ref (w.2.1 + 478)), (1, .int x1), (2, .long y2), (4, .int x4), (5, .ref (w.2.1 + a5)), (6, .int x6), (7, .int x7)] [] S r) (x1 : Int32) (y2 : Int64) (x4 : Int32) (a5 : Nat) (x6 : Int32) (x7 : Int32) (x8 : Int32) (S : xS) (r : xr) (hf : f_X0_begin_96 N k14 x1 y2 x4 a5 x6 x7 x8 S = some r) : ES l w g M_X0_begin 96 [(0, .ref (w.2.1 + 478)), (1, .int x1), (2, .long y2), (4, .int x4), (5, .ref (w.2.1 + a5)), (6, .int x6), (7, .int x7), (8, .int x8)] [] S r := by
  unfold f_X0_begin_96 at hf
  refine es_l (pc' := 102) (ls' := [(0, .ref (w.2.1 + 478)), (1, .int x1), (2, .long y2), (4, .int x4), (5, .ref (w.2.1 + a5)), (6, .int x6), (7, .int x7), (8, .int x8)]) (st' := [.int x7, .int x8, .ref (w.2.1 + a5)]) (fun _ _ k => e_aload dX0_begin_96 4 rfl (e_iload dX0_begin_98 7 rfl (e_iload dX0_begin_100 6 rfl k))) ?_
  obtain ⟨g45, hf⟩ := xg hf
  obtain ⟨g46, hf⟩ := xg hf
  refine es_iast dX0_begin_102 (xReg480_lt g45) (cel_r480 g45 _) g46 ?_
  refine es_l (pc' := 106) (ls' := [(6, .int (x6 + 1)), (0, .ref (w.2.1 + 478)), (1, .int x1), (2, .long y2), (4, .int x4), (5, .ref (w.2.1 + a5)), (7, .int x7), (8, .int x8)]) (st' := []) (fun _ _ k => e_iinc (v := x6 + 1) (ls' := [(6, .int (x6 + 1)), (0, .ref (w.2.1 + 478)), (1, .int x1), (2, .long y2), (4, .int x4), (5, .ref (w.2.1 + a5)), (7, .int x7), (8, .int x8)]) dX0_begin_103 5 rfl rfl (by decide) rfl k) ?_
  refine es_sub [1, 2, 3, 4, 5, 0, 6] rfl ?_
  exact t_X0_begin_106 N k14 hk14 x1 y2 x4 a5 (x6 + 1) x7 (sI S a5 x8.toNatClampNeg x7) r hf
def f_X0_begin_39 (N : Nat) (k14 : Int32 → Int64 → Int32 → Nat → Int32 → Int32 → xS → Option xr) : Nat → Int32 → Int64 → Int32 → Nat → Int32 → Int32 → Int32 → xS → Option xr
  | 0, _, _, _, _, _, _, _, _ => none
  | n + 1, x1, y2, x4, a5, x6, x7, x8, S =>
  if x8 ≤ 0 then
    f_X0_begin_96 N k14 x1 y2 x4 a5 x6 x7 x8 S
  else
    if xReg480 a5 then
    if xin (x8 - 1) 64 then
    if xin (S.1 a5 ((x8 - 1).toNatClampNeg)) 64 then
    if xin x4 6 then
    if xin x7 64 then
    if (S.1 (32 + (S.1 a5 ((x8 - 1).toNatClampNeg)).toNatClampNeg) x4.toNatClampNeg) ≤ (S.1 (32 + x7.toNatClampNeg) x4.toNatClampNeg) then
      f_X0_begin_96 N k14 x1 y2 x4 a5 x6 x7 x8 S
    else
      if xin x8 64 then
      f_X0_begin_39 N k14 n x1 y2 x4 a5 x6 x7 (x8 + (-1)) (sI S a5 x8.toNatClampNeg (S.1 a5 ((x8 - 1).toNatClampNeg)))
      else none
    else none
    else none
    else none
    else none
    else none
set_option maxRecDepth 100000 in
set_option maxHeartbeats 4000000 in
theorem t_X0_begin_39 {l : Launch} {w : xW} {g : Nat → xE} (N : Nat) (k14 : Int32 → Int64 → Int32 → Nat → Int32 → Int32 → xS → Option xr) (hk14 : ∀ (x1 : Int32) (y2 : Int64) (x4 : Int32) (a5 : Nat) (x6 : Int32) (x7 : Int32) (S : xS) (r : xr), k14 x1 y2 x4 a5 x6 x7 S = some r → ES l w g M_X0_begin 14 [(0, .ref (w.2.1 + 478)), (1, .int x1), (2, .long y2), (4, .int x4), (5, .ref (w.2.1 + a5)), (6, .int x6), (7, .int x7)] [] S r) : ∀ (n : Nat) (x1 : Int32) (y2 : Int64) (x4 : Int32) (a5 : Nat) (x6 : Int32) (x7 : Int32) (x8 : Int32) (S : xS) (r : xr), f_X0_begin_39 N k14 n x1 y2 x4 a5 x6 x7 x8 S = some r → ES l w g M_X0_begin 39 [(0, .ref (w.2.1 + 478)), (1, .int x1), (2, .long y2), (4, .int x4), (5, .ref (w.2.1 + a5)), (6, .int x6), (7, .int x7), (8, .int x8)] [] S r := by
  intro n
  induction n with
  | zero => intro x1 y2 x4 a5 x6 x7 x8 S r hf; cases hf
  | succ n ih =>
    intro x1 y2 x4 a5 x6 x7 x8 S r hf
    rw [f_X0_begin_39.eq_2] at hf
    refine es_l (pc' := 41) (ls' := [(0, .ref (w.2.1 + 478)), (1, .int x1), (2, .long y2), (4, .int x4), (5, .ref (w.2.1 + a5)), (6, .int x6), (7, .int x7), (8, .int x8)]) (st' := [.int x8]) (fun _ _ k => e_iload dX0_begin_39 7 rfl k) ?_
    refine es_br (c := x8 ≤ 0) (tgt := 96) (pf := 44) (st' := []) (fun _ _ a b => e_if_le dX0_begin_41 rfl a b) (fun c47 => ?_) (fun c47 => ?_)
    · rw [if_pos c47] at hf
      exact t_X0_begin_96 N k14 hk14 x1 y2 x4 a5 x6 x7 x8 S r hf
    · rw [if_neg c47] at hf
      refine es_l (pc' := 45) (ls' := [(0, .ref (w.2.1 + 478)), (1, .int x1), (2, .long y2), (4, .int x4), (5, .ref (w.2.1 + a5)), (6, .int x6), (7, .int x7), (8, .int x8)]) (st' := [.ref (w.2.1 + 478)]) (fun _ _ k => e_aload_n dX0_begin_44 0 rfl k) ?_
      refine es_get (v := .ref (w.2.1 + 29)) xc_0 dX0_begin_45 fl_X0_26 (by decide) (by decide) (cel_478 _ _ _) rfl ?_
      refine es_get (v := .ref (w.2.1 + 31)) xc_10 dX0_begin_48 fl_X0_30 (by decide) (by decide) (cel_29 _ _ _) rfl ?_
      refine es_l (pc' := 57) (ls' := [(0, .ref (w.2.1 + 478)), (1, .int x1), (2, .long y2), (4, .int x4), (5, .ref (w.2.1 + a5)), (6, .int x6), (7, .int x7), (8, .int x8)]) (st' := [.int (x8 - 1), .ref (w.2.1 + a5), .ref (w.2.1 + 31)]) (fun _ _ k => e_aload dX0_begin_51 4 rfl (e_iload dX0_begin_53 7 rfl (e_iconst (v := 1) dX0_begin_55 (by decide) (e_isub dX0_begin_56 k)))) ?_
      obtain ⟨g48, hf⟩ := xg hf
      obtain ⟨g49, hf⟩ := xg hf
      refine es_iald (v := .int (S.1 a5 ((x8 - 1).toNatClampNeg))) dX0_begin_57 (xReg480_lt g48) (cel_r480 g48 _ _ _) g49 rfl ?_
      obtain ⟨g50, hf⟩ := xg hf
      refine es_aald (v := .ref (w.2.1 + (32 + (S.1 a5 ((x8 - 1).toNatClampNeg)).toNatClampNeg))) rfl dX0_begin_58 (by decide) (cel_31 _ _ _) g50 rfl ?_
      refine es_l (pc' := 61) (ls' := [(0, .ref (w.2.1 + 478)), (1, .int x1), (2, .long y2), (4, .int x4), (5, .ref (w.2.1 + a5)), (6, .int x6), (7, .int x7), (8, .int x8)]) (st' := [.int x4, .ref (w.2.1 + (32 + (S.1 a5 ((x8 - 1).toNatClampNeg)).toNatClampNeg))]) (fun _ _ k => e_iload dX0_begin_59 3 rfl k) ?_
      obtain ⟨g51, hf⟩ := xg hf
      refine es_iald (v := .int (S.1 (32 + (S.1 a5 ((x8 - 1).toNatClampNeg)).toNatClampNeg) x4.toNatClampNeg)) dX0_begin_61 (xReg32_lt (xReg32_at g50)) (cel_r32 (xReg32_at g50) _ _ _) g51 rfl ?_
      refine es_l (pc' := 63) (ls' := [(0, .ref (w.2.1 + 478)), (1, .int x1), (2, .long y2), (4, .int x4), (5, .ref (w.2.1 + a5)), (6, .int x6), (7, .int x7), (8, .int x8)]) (st' := [.ref (w.2.1 + 478), .int (S.1 (32 + (S.1 a5 ((x8 - 1).toNatClampNeg)).toNatClampNeg) x4.toNatClampNeg)]) (fun _ _ k => e_aload_n dX0_begin_62 0 rfl k) ?_
      refine es_get (v := .ref (w.2.1 + 29)) xc_0 dX0_begin_63 fl_X0_26 (by decide) (by decide) (cel_478 _ _ _) rfl ?_
      refine es_get (v := .ref (w.2.1 + 31)) xc_10 dX0_begin_66 fl_X0_30 (by decide) (by decide) (cel_29 _ _ _) rfl ?_
      refine es_l (pc' := 71) (ls' := [(0, .ref (w.2.1 + 478)), (1, .int x1), (2, .long y2), (4, .int x4), (5, .ref (w.2.1 + a5)), (6, .int x6), (7, .int x7), (8, .int x8)]) (st' := [.int x7, .ref (w.2.1 + 31), .int (S.1 (32 + (S.1 a5 ((x8 - 1).toNatClampNeg)).toNatClampNeg) x4.toNatClampNeg)]) (fun _ _ k => e_iload dX0_begin_69 6 rfl k) ?_
      obtain ⟨g52, hf⟩ := xg hf
      refine es_aald (v := .ref (w.2.1 + (32 + x7.toNatClampNeg))) rfl dX0_begin_71 (by decide) (cel_31 _ _ _) g52 rfl ?_
      refine es_l (pc' := 74) (ls' := [(0, .ref (w.2.1 + 478)), (1, .int x1), (2, .long y2), (4, .int x4), (5, .ref (w.2.1 + a5)), (6, .int x6), (7, .int x7), (8, .int x8)]) (st' := [.int x4, .ref (w.2.1 + (32 + x7.toNatClampNeg)), .int (S.1 (32 + (S.1 a5 ((x8 - 1).toNatClampNeg)).toNatClampNeg) x4.toNatClampNeg)]) (fun _ _ k => e_iload dX0_begin_72 3 rfl k) ?_
      refine es_iald (v := .int (S.1 (32 + x7.toNatClampNeg) x4.toNatClampNeg)) dX0_begin_74 (xReg32_lt (xReg32_at g52)) (cel_r32 (xReg32_at g52) _ _ _) g51 rfl ?_
      refine es_br (c := (S.1 (32 + (S.1 a5 ((x8 - 1).toNatClampNeg)).toNatClampNeg) x4.toNatClampNeg) ≤ (S.1 (32 + x7.toNatClampNeg) x4.toNatClampNeg)) (tgt := 96) (pf := 78) (st' := []) (fun _ _ a b => e_icmp_le dX0_begin_75 rfl a b) (fun c53 => ?_) (fun c53 => ?_)
      · rw [if_pos c53] at hf
        exact t_X0_begin_96 N k14 hk14 x1 y2 x4 a5 x6 x7 x8 S r hf
      · rw [if_neg c53] at hf
        refine es_l (pc' := 88) (ls' := [(0, .ref (w.2.1 + 478)), (1, .int x1), (2, .long y2), (4, .int x4), (5, .ref (w.2.1 + a5)), (6, .int x6), (7, .int x7), (8, .int x8)]) (st' := [.int (x8 - 1), .ref (w.2.1 + a5), .int x8, .ref (w.2.1 + a5)]) (fun _ _ k => e_aload dX0_begin_78 4 rfl (e_iload dX0_begin_80 7 rfl (e_aload dX0_begin_82 4 rfl (e_iload dX0_begin_84 7 rfl (e_iconst (v := 1) dX0_begin_86 (by decide) (e_isub dX0_begin_87 k)))))) ?_
        refine es_iald (v := .int (S.1 a5 ((x8 - 1).toNatClampNeg))) dX0_begin_88 (xReg480_lt g48) (cel_r480 g48 _ _ _) g49 rfl ?_
        obtain ⟨g54, hf⟩ := xg hf
        refine es_iast dX0_begin_89 (xReg480_lt g48) (cel_r480 g48 _) g54 ?_
        refine es_l (pc' := 39) (ls' := [(8, .int (x8 + (-1))), (0, .ref (w.2.1 + 478)), (1, .int x1), (2, .long y2), (4, .int x4), (5, .ref (w.2.1 + a5)), (6, .int x6), (7, .int x7)]) (st' := []) (fun _ _ k => e_iinc (v := x8 + (-1)) (ls' := [(8, .int (x8 + (-1))), (0, .ref (w.2.1 + 478)), (1, .int x1), (2, .long y2), (4, .int x4), (5, .ref (w.2.1 + a5)), (6, .int x6), (7, .int x7)]) dX0_begin_90 7 rfl rfl (by decide) rfl (e_goto (tgt := 39) dX0_begin_93 rfl k)) ?_
        refine es_sub [1, 2, 3, 4, 5, 6, 7, 0] rfl ?_
        exact ih x1 y2 x4 a5 x6 x7 (x8 + (-1)) (sI S a5 x8.toNatClampNeg (S.1 a5 ((x8 - 1).toNatClampNeg))) r hf
def f_X0_begin_14 (N : Nat)  : Nat → Int32 → Int64 → Int32 → Nat → Int32 → Int32 → xS → Option xr
  | 0, _, _, _, _, _, _, _ => none
  | n + 1, x1, y2, x4, a5, x6, x7, S =>
  if 64 ≤ x7 then
    f_X0_begin_115 N N x1 a5 x6 0 S
  else
    if (lg_cmp ((((y2 : Int64).toUInt64 >>> ((x7 : Int32).toInt64.toUInt64 &&& Int64.toUInt64 63)).toInt64) &&& 1) 0) = 0 then
      f_X0_begin_106 N (f_X0_begin_14 N n) x1 y2 x4 a5 x6 x7 S
    else
      f_X0_begin_39 N (f_X0_begin_14 N n) N x1 y2 x4 a5 x6 x7 x6 S
set_option maxRecDepth 100000 in
set_option maxHeartbeats 4000000 in
theorem t_X0_begin_14 {l : Launch} {w : xW} {g : Nat → xE} (N : Nat)   : ∀ (n : Nat) (x1 : Int32) (y2 : Int64) (x4 : Int32) (a5 : Nat) (x6 : Int32) (x7 : Int32) (S : xS) (r : xr), f_X0_begin_14 N  n x1 y2 x4 a5 x6 x7 S = some r → ES l w g M_X0_begin 14 [(0, .ref (w.2.1 + 478)), (1, .int x1), (2, .long y2), (4, .int x4), (5, .ref (w.2.1 + a5)), (6, .int x6), (7, .int x7)] [] S r := by
  intro n
  induction n with
  | zero => intro x1 y2 x4 a5 x6 x7 S r hf; cases hf
  | succ n ih =>
    intro x1 y2 x4 a5 x6 x7 S r hf
    rw [f_X0_begin_14.eq_2] at hf
    refine es_l (pc' := 18) (ls' := [(0, .ref (w.2.1 + 478)), (1, .int x1), (2, .long y2), (4, .int x4), (5, .ref (w.2.1 + a5)), (6, .int x6), (7, .int x7)]) (st' := [.int 64, .int x7]) (fun _ _ k => e_iload dX0_begin_14 6 rfl (e_bipush (v := 64) dX0_begin_16 (by decide) k)) ?_
    refine es_br (c := 64 ≤ x7) (tgt := 112) (pf := 21) (st' := []) (fun _ _ a b => e_icmp_ge dX0_begin_18 rfl a b) (fun c55 => ?_) (fun c55 => ?_)
    · rw [if_pos c55] at hf
      refine es_l (pc' := 115) (ls' := [(7, .int 0), (0, .ref (w.2.1 + 478)), (1, .int x1), (2, .long y2), (4, .int x4), (5, .ref (w.2.1 + a5)), (6, .int x6)]) (st' := []) (fun _ _ k => e_iconst (v := 0) dX0_begin_112 (by decide) (e_istore (ls' := [(7, .int 0), (0, .ref (w.2.1 + 478)), (1, .int x1), (2, .long y2), (4, .int x4), (5, .ref (w.2.1 + a5)), (6, .int x6)]) dX0_begin_113 (by decide) rfl k)) ?_
      refine es_sub [1, 2, 5, 6, 0] rfl ?_
      exact t_X0_begin_115 N N x1 a5 x6 0 S r hf
    · rw [if_neg c55] at hf
      refine es_l (pc' := 29) (ls' := [(0, .ref (w.2.1 + 478)), (1, .int x1), (2, .long y2), (4, .int x4), (5, .ref (w.2.1 + a5)), (6, .int x6), (7, .int x7)]) (st' := [.int (lg_cmp ((((y2 : Int64).toUInt64 >>> ((x7 : Int32).toInt64.toUInt64 &&& Int64.toUInt64 63)).toInt64) &&& 1) 0)]) (fun _ _ k => e_lload_n dX0_begin_21 2 rfl (e_iload dX0_begin_22 6 rfl (e_lushr (v := ((y2 : Int64).toUInt64 >>> ((x7 : Int32).toInt64.toUInt64 &&& Int64.toUInt64 63)).toInt64) dX0_begin_24 rfl (e_lconst (v := 1) dX0_begin_25 (by decide) (e_land dX0_begin_26 (e_lconst (v := 0) dX0_begin_27 (by decide) (e_lcmp dX0_begin_28 k))))))) ?_
      refine es_br (c := (lg_cmp ((((y2 : Int64).toUInt64 >>> ((x7 : Int32).toInt64.toUInt64 &&& Int64.toUInt64 63)).toInt64) &&& 1) 0) = 0) (tgt := 32) (pf := 35) (st' := []) (fun _ _ a b => e_if_ne dX0_begin_29 rfl b a) (fun c56 => ?_) (fun c56 => ?_)
      · rw [if_pos c56] at hf
        refine es_l (pc' := 106) (ls' := [(0, .ref (w.2.1 + 478)), (1, .int x1), (2, .long y2), (4, .int x4), (5, .ref (w.2.1 + a5)), (6, .int x6), (7, .int x7)]) (st' := []) (fun _ _ k => e_goto (tgt := 106) dX0_begin_32 rfl k) ?_
        exact t_X0_begin_106 N (f_X0_begin_14 N n) ih x1 y2 x4 a5 x6 x7 S r hf
      · rw [if_neg c56] at hf
        refine es_l (pc' := 39) (ls' := [(8, .int x6), (0, .ref (w.2.1 + 478)), (1, .int x1), (2, .long y2), (4, .int x4), (5, .ref (w.2.1 + a5)), (6, .int x6), (7, .int x7)]) (st' := []) (fun _ _ k => e_iload dX0_begin_35 5 rfl (e_istore (ls' := [(8, .int x6), (0, .ref (w.2.1 + 478)), (1, .int x1), (2, .long y2), (4, .int x4), (5, .ref (w.2.1 + a5)), (6, .int x6), (7, .int x7)]) dX0_begin_37 (by decide) rfl k)) ?_
        refine es_sub [1, 2, 3, 4, 5, 6, 7, 0] rfl ?_
        exact t_X0_begin_39 N (f_X0_begin_14 N n) ih N x1 y2 x4 a5 x6 x7 x6 S r hf
def f_X0_begin (N : Nat) (x1 : Int32) (y2 : Int64) (x4 : Int32) (S : xS) : Option xr :=
  if xin x1 10 then
  f_X0_begin_14 N N x1 y2 x4 (480 + x1.toNatClampNeg) 0 0 S
  else none
set_option maxRecDepth 100000 in
set_option maxHeartbeats 4000000 in
theorem t_X0_begin {l : Launch} {w : xW} {g : Nat → xE} (N : Nat) (x1 : Int32) (y2 : Int64) (x4 : Int32) (S : xS) (r : xr) (hf : f_X0_begin N x1 y2 x4 S = some r) : ES l w g M_X0_begin 0 (lv_args 0 [.ref (w.2.1 + 478), .int x1, .long y2, .int x4]) [] S r := by
  show ES l w g M_X0_begin 0 [(0, .ref (w.2.1 + 478)), (1, .int x1), (2, .long y2), (4, .int x4)] [] S r
  unfold f_X0_begin at hf
  refine es_l (pc' := 1) (ls' := [(0, .ref (w.2.1 + 478)), (1, .int x1), (2, .long y2), (4, .int x4)]) (st' := [.ref (w.2.1 + 478)]) (fun _ _ k => e_aload_n dX0_begin_0 0 rfl k) ?_
  refine es_get (v := .ref (w.2.1 + 479)) xc_0 dX0_begin_1 fl_X0_11 (by decide) (by decide) (cel_478 _ _ _) rfl ?_
  refine es_l (pc' := 5) (ls' := [(0, .ref (w.2.1 + 478)), (1, .int x1), (2, .long y2), (4, .int x4)]) (st' := [.int x1, .ref (w.2.1 + 479)]) (fun _ _ k => e_iload_n dX0_begin_4 1 rfl k) ?_
  obtain ⟨g57, hf⟩ := xg hf
  refine es_aald (v := .ref (w.2.1 + (480 + x1.toNatClampNeg))) rfl dX0_begin_5 (by decide) (cel_479 _ _ _) g57 rfl ?_
  refine es_l (pc' := 14) (ls' := [(7, .int 0), (6, .int 0), (5, .ref (w.2.1 + (480 + x1.toNatClampNeg))), (0, .ref (w.2.1 + 478)), (1, .int x1), (2, .long y2), (4, .int x4)]) (st' := []) (fun _ _ k => e_astore (ls' := [(5, .ref (w.2.1 + (480 + x1.toNatClampNeg))), (0, .ref (w.2.1 + 478)), (1, .int x1), (2, .long y2), (4, .int x4)]) dX0_begin_6 (by decide) rfl (e_iconst (v := 0) dX0_begin_8 (by decide) (e_istore (ls' := [(6, .int 0), (5, .ref (w.2.1 + (480 + x1.toNatClampNeg))), (0, .ref (w.2.1 + 478)), (1, .int x1), (2, .long y2), (4, .int x4)]) dX0_begin_9 (by decide) rfl (e_iconst (v := 0) dX0_begin_11 (by decide) (e_istore (ls' := [(7, .int 0), (6, .int 0), (5, .ref (w.2.1 + (480 + x1.toNatClampNeg))), (0, .ref (w.2.1 + 478)), (1, .int x1), (2, .long y2), (4, .int x4)]) dX0_begin_12 (by decide) rfl k))))) ?_
  refine es_sub [3, 4, 5, 6, 2, 1, 0] rfl ?_
  exact t_X0_begin_14 N N x1 y2 x4 (480 + x1.toNatClampNeg) 0 0 S r hf
def f_X0_at_41 (N : Nat)  (s0 : Int32) (S : xS) : Option xr :=
  some (.inl (some (.inl s0)), S)
set_option maxRecDepth 100000 in
set_option maxHeartbeats 4000000 in
theorem t_X0_at_41 {l : Launch} {w : xW} {g : Nat → xE} (N : Nat)   (s0 : Int32) (S : xS) (r : xr) (hf : f_X0_at_41 N  s0 S = some r) : ES l w g M_X0_at 41 [] [.int s0] S r := by
  unfold f_X0_at_41 at hf
  exact es_ireturn (ty := .int) dX0_at_41 rfl rfl hf
def f_X0_at (N : Nat) (x1 : Int32) (S : xS) : Option xr :=
  if xin x1 10 then
  if xin (S.1 502 x1.toNatClampNeg) 64 then
  if xin (S.1 (480 + x1.toNatClampNeg) ((S.1 502 x1.toNatClampNeg).toNatClampNeg)) 64 then
  if (S.1 96 ((S.1 (480 + x1.toNatClampNeg) ((S.1 502 x1.toNatClampNeg).toNatClampNeg)).toNatClampNeg)) = (S.1 (491 + x1.toNatClampNeg) ((S.1 502 x1.toNatClampNeg).toNatClampNeg)) then
    f_X0_at_41 N (S.1 (480 + x1.toNatClampNeg) ((S.1 502 x1.toNatClampNeg).toNatClampNeg)) S
  else
    f_X0_at_41 N ((-1)) S
  else none
  else none
  else none
set_option maxRecDepth 100000 in
set_option maxHeartbeats 4000000 in
theorem t_X0_at {l : Launch} {w : xW} {g : Nat → xE} (N : Nat) (x1 : Int32) (S : xS) (r : xr) (hf : f_X0_at N x1 S = some r) : ES l w g M_X0_at 0 (lv_args 0 [.ref (w.2.1 + 478), .int x1]) [] S r := by
  show ES l w g M_X0_at 0 [(0, .ref (w.2.1 + 478)), (1, .int x1)] [] S r
  unfold f_X0_at at hf
  refine es_l (pc' := 1) (ls' := [(0, .ref (w.2.1 + 478)), (1, .int x1)]) (st' := [.ref (w.2.1 + 478)]) (fun _ _ k => e_aload_n dX0_at_0 0 rfl k) ?_
  refine es_get (v := .ref (w.2.1 + 502)) xc_0 dX0_at_1 fl_X0_23 (by decide) (by decide) (cel_478 _ _ _) rfl ?_
  refine es_l (pc' := 5) (ls' := [(0, .ref (w.2.1 + 478)), (1, .int x1)]) (st' := [.int x1, .ref (w.2.1 + 502)]) (fun _ _ k => e_iload_n dX0_at_4 1 rfl k) ?_
  obtain ⟨g9, hf⟩ := xg hf
  refine es_iald (v := .int (S.1 502 x1.toNatClampNeg)) dX0_at_5 (by decide) (cel_502 _ _ _) g9 rfl ?_
  refine es_l (pc' := 8) (ls' := [(2, .int (S.1 502 x1.toNatClampNeg)), (0, .ref (w.2.1 + 478)), (1, .int x1)]) (st' := [.ref (w.2.1 + 478)]) (fun _ _ k => e_istore_n (ls' := [(2, .int (S.1 502 x1.toNatClampNeg)), (0, .ref (w.2.1 + 478)), (1, .int x1)]) dX0_at_6 (by decide) rfl (e_aload_n dX0_at_7 1 rfl k)) ?_
  refine es_get (v := .ref (w.2.1 + 479)) xc_0 dX0_at_8 fl_X0_11 (by decide) (by decide) (cel_478 _ _ _) rfl ?_
  refine es_l (pc' := 12) (ls' := [(2, .int (S.1 502 x1.toNatClampNeg)), (0, .ref (w.2.1 + 478)), (1, .int x1)]) (st' := [.int x1, .ref (w.2.1 + 479)]) (fun _ _ k => e_iload_n dX0_at_11 2 rfl k) ?_
  refine es_aald (v := .ref (w.2.1 + (480 + x1.toNatClampNeg))) rfl dX0_at_12 (by decide) (cel_479 _ _ _) g9 rfl ?_
  refine es_l (pc' := 14) (ls' := [(2, .int (S.1 502 x1.toNatClampNeg)), (0, .ref (w.2.1 + 478)), (1, .int x1)]) (st' := [.int (S.1 502 x1.toNatClampNeg), .ref (w.2.1 + (480 + x1.toNatClampNeg))]) (fun _ _ k => e_iload_n dX0_at_13 0 rfl k) ?_
  obtain ⟨g10, hf⟩ := xg hf
  refine es_iald (v := .int (S.1 (480 + x1.toNatClampNeg) ((S.1 502 x1.toNatClampNeg).toNatClampNeg))) dX0_at_14 (xReg480_lt (xReg480_at g9)) (cel_r480 (xReg480_at g9) _ _ _) g10 rfl ?_
  refine es_l (pc' := 17) (ls' := [(3, .int (S.1 (480 + x1.toNatClampNeg) ((S.1 502 x1.toNatClampNeg).toNatClampNeg))), (2, .int (S.1 502 x1.toNatClampNeg)), (0, .ref (w.2.1 + 478)), (1, .int x1)]) (st' := [.ref (w.2.1 + 478)]) (fun _ _ k => e_istore_n (ls' := [(3, .int (S.1 (480 + x1.toNatClampNeg) ((S.1 502 x1.toNatClampNeg).toNatClampNeg))), (2, .int (S.1 502 x1.toNatClampNeg)), (0, .ref (w.2.1 + 478)), (1, .int x1)]) dX0_at_15 (by decide) rfl (e_aload_n dX0_at_16 2 rfl k)) ?_
  refine es_get (v := .ref (w.2.1 + 29)) xc_0 dX0_at_17 fl_X0_26 (by decide) (by decide) (cel_478 _ _ _) rfl ?_
  refine es_get (v := .ref (w.2.1 + 96)) xc_10 dX0_at_20 fl_X0_35 (by decide) (by decide) (cel_29 _ _ _) rfl ?_
  refine es_l (pc' := 24) (ls' := [(3, .int (S.1 (480 + x1.toNatClampNeg) ((S.1 502 x1.toNatClampNeg).toNatClampNeg))), (2, .int (S.1 502 x1.toNatClampNeg)), (0, .ref (w.2.1 + 478)), (1, .int x1)]) (st' := [.int (S.1 (480 + x1.toNatClampNeg) ((S.1 502 x1.toNatClampNeg).toNatClampNeg)), .ref (w.2.1 + 96)]) (fun _ _ k => e_iload_n dX0_at_23 0 rfl k) ?_
  obtain ⟨g11, hf⟩ := xg hf
  refine es_iald (v := .int (S.1 96 ((S.1 (480 + x1.toNatClampNeg) ((S.1 502 x1.toNatClampNeg).toNatClampNeg)).toNatClampNeg))) dX0_at_24 (by decide) (cel_96 _ _ _) g11 rfl ?_
  refine es_l (pc' := 26) (ls' := [(3, .int (S.1 (480 + x1.toNatClampNeg) ((S.1 502 x1.toNatClampNeg).toNatClampNeg))), (2, .int (S.1 502 x1.toNatClampNeg)), (0, .ref (w.2.1 + 478)), (1, .int x1)]) (st' := [.ref (w.2.1 + 478), .int (S.1 96 ((S.1 (480 + x1.toNatClampNeg) ((S.1 502 x1.toNatClampNeg).toNatClampNeg)).toNatClampNeg))]) (fun _ _ k => e_aload_n dX0_at_25 2 rfl k) ?_
  refine es_get (v := .ref (w.2.1 + 490)) xc_0 dX0_at_26 fl_X0_16 (by decide) (by decide) (cel_478 _ _ _) rfl ?_
  refine es_l (pc' := 30) (ls' := [(3, .int (S.1 (480 + x1.toNatClampNeg) ((S.1 502 x1.toNatClampNeg).toNatClampNeg))), (2, .int (S.1 502 x1.toNatClampNeg)), (0, .ref (w.2.1 + 478)), (1, .int x1)]) (st' := [.int x1, .ref (w.2.1 + 490), .int (S.1 96 ((S.1 (480 + x1.toNatClampNeg) ((S.1 502 x1.toNatClampNeg).toNatClampNeg)).toNatClampNeg))]) (fun _ _ k => e_iload_n dX0_at_29 3 rfl k) ?_
  refine es_aald (v := .ref (w.2.1 + (491 + x1.toNatClampNeg))) rfl dX0_at_30 (by decide) (cel_490 _ _ _) g9 rfl ?_
  refine es_l (pc' := 32) (ls' := [(3, .int (S.1 (480 + x1.toNatClampNeg) ((S.1 502 x1.toNatClampNeg).toNatClampNeg))), (2, .int (S.1 502 x1.toNatClampNeg)), (0, .ref (w.2.1 + 478)), (1, .int x1)]) (st' := [.int (S.1 502 x1.toNatClampNeg), .ref (w.2.1 + (491 + x1.toNatClampNeg)), .int (S.1 96 ((S.1 (480 + x1.toNatClampNeg) ((S.1 502 x1.toNatClampNeg).toNatClampNeg)).toNatClampNeg))]) (fun _ _ k => e_iload_n dX0_at_31 1 rfl k) ?_
  refine es_iald (v := .int (S.1 (491 + x1.toNatClampNeg) ((S.1 502 x1.toNatClampNeg).toNatClampNeg))) dX0_at_32 (xReg491_lt (xReg491_at g9)) (cel_r491 (xReg491_at g9) _ _ _) g10 rfl ?_
  refine es_br (c := (S.1 96 ((S.1 (480 + x1.toNatClampNeg) ((S.1 502 x1.toNatClampNeg).toNatClampNeg)).toNatClampNeg)) = (S.1 (491 + x1.toNatClampNeg) ((S.1 502 x1.toNatClampNeg).toNatClampNeg))) (tgt := 36) (pf := 40) (st' := []) (fun _ _ a b => e_icmp_ne dX0_at_33 rfl b a) (fun c12 => ?_) (fun c12 => ?_)
  · rw [if_pos c12] at hf
    refine es_l (pc' := 41) (ls' := [(3, .int (S.1 (480 + x1.toNatClampNeg) ((S.1 502 x1.toNatClampNeg).toNatClampNeg))), (2, .int (S.1 502 x1.toNatClampNeg)), (0, .ref (w.2.1 + 478)), (1, .int x1)]) (st' := [.int (S.1 (480 + x1.toNatClampNeg) ((S.1 502 x1.toNatClampNeg).toNatClampNeg))]) (fun _ _ k => e_iload_n dX0_at_36 0 rfl (e_goto (tgt := 41) dX0_at_37 rfl k)) ?_
    refine es_sub [] rfl ?_
    exact t_X0_at_41 N (S.1 (480 + x1.toNatClampNeg) ((S.1 502 x1.toNatClampNeg).toNatClampNeg)) S r hf
  · rw [if_neg c12] at hf
    refine es_l (pc' := 41) (ls' := [(3, .int (S.1 (480 + x1.toNatClampNeg) ((S.1 502 x1.toNatClampNeg).toNatClampNeg))), (2, .int (S.1 502 x1.toNatClampNeg)), (0, .ref (w.2.1 + 478)), (1, .int x1)]) (st' := [.int ((-1))]) (fun _ _ k => e_iconst (v := (-1)) dX0_at_40 (by decide) k) ?_
    refine es_sub [] rfl ?_
    exact t_X0_at_41 N ((-1)) S r hf
def f_X0_moves_9 (N : Nat)  : Nat → Int32 → Int32 → xS → Option xr
  | 0, _, _, _ => none
  | n + 1, x1, x2, S =>
  if xin x1 10 then
  if (S.1 501 x1.toNatClampNeg) ≤ x2 then
    some (.inl (some (.inl 0)), S)
  else
    xcI (f_X0_at N x1 (sI S 502 x1.toNatClampNeg x2)) (fun v16 S15 =>
    if v16 = ((-1)) then
      f_X0_moves_9 N n x1 (x2 + 1) S15
    else
      some (.inl (some (.inl 1)), S15)
    )
  else none
set_option maxRecDepth 100000 in
set_option maxHeartbeats 4000000 in
theorem t_X0_moves_9 {l : Launch} {w : xW} {g : Nat → xE} (N : Nat)   : ∀ (n : Nat) (x1 : Int32) (x2 : Int32) (S : xS) (r : xr), f_X0_moves_9 N  n x1 x2 S = some r → ES l w g M_X0_moves 9 [(0, .ref (w.2.1 + 478)), (1, .int x1), (2, .int x2)] [] S r := by
  intro n
  induction n with
  | zero => intro x1 x2 S r hf; cases hf
  | succ n ih =>
    intro x1 x2 S r hf
    rw [f_X0_moves_9.eq_2] at hf
    refine es_l (pc' := 11) (ls' := [(0, .ref (w.2.1 + 478)), (1, .int x1), (2, .int x2)]) (st' := [.ref (w.2.1 + 478), .int x2]) (fun _ _ k => e_iload_n dX0_moves_9 2 rfl (e_aload_n dX0_moves_10 0 rfl k)) ?_
    refine es_get (v := .ref (w.2.1 + 501)) xc_0 dX0_moves_11 fl_X0_19 (by decide) (by decide) (cel_478 _ _ _) rfl ?_
    refine es_l (pc' := 15) (ls' := [(0, .ref (w.2.1 + 478)), (1, .int x1), (2, .int x2)]) (st' := [.int x1, .ref (w.2.1 + 501), .int x2]) (fun _ _ k => e_iload_n dX0_moves_14 1 rfl k) ?_
    obtain ⟨g13, hf⟩ := xg hf
    refine es_iald (v := .int (S.1 501 x1.toNatClampNeg)) dX0_moves_15 (by decide) (cel_501 _ _ _) g13 rfl ?_
    refine es_br (c := (S.1 501 x1.toNatClampNeg) ≤ x2) (tgt := 43) (pf := 19) (st' := []) (fun _ _ a b => e_icmp_ge dX0_moves_16 rfl a b) (fun c14 => ?_) (fun c14 => ?_)
    · rw [if_pos c14] at hf
      refine es_l (pc' := 44) (ls' := [(0, .ref (w.2.1 + 478)), (1, .int x1), (2, .int x2)]) (st' := [.int 0]) (fun _ _ k => e_iconst (v := 0) dX0_moves_43 (by decide) k) ?_
      exact es_ireturn (ty := .boolean) dX0_moves_44 rfl rfl hf
    · rw [if_neg c14] at hf
      refine es_l (pc' := 20) (ls' := [(0, .ref (w.2.1 + 478)), (1, .int x1), (2, .int x2)]) (st' := [.ref (w.2.1 + 478)]) (fun _ _ k => e_aload_n dX0_moves_19 0 rfl k) ?_
      refine es_get (v := .ref (w.2.1 + 502)) xc_0 dX0_moves_20 fl_X0_23 (by decide) (by decide) (cel_478 _ _ _) rfl ?_
      refine es_l (pc' := 25) (ls' := [(0, .ref (w.2.1 + 478)), (1, .int x1), (2, .int x2)]) (st' := [.int x2, .int x1, .ref (w.2.1 + 502)]) (fun _ _ k => e_iload_n dX0_moves_23 1 rfl (e_iload_n dX0_moves_24 2 rfl k)) ?_
      refine es_iast dX0_moves_25 (by decide) (cel_502 _) g13 ?_
      refine es_l (pc' := 28) (ls' := [(0, .ref (w.2.1 + 478)), (1, .int x1), (2, .int x2)]) (st' := [.int x1, .ref (w.2.1 + 478)]) (fun _ _ k => e_aload_n dX0_moves_26 0 rfl (e_iload_n dX0_moves_27 1 rfl k)) ?_
      refine es_callVI (as := [.int x1]) (rest := []) hf xc_0 dX0_moves_28 cs_X0_moves_X0_at ml_X0_37 im_X0_at se_X0_at rfl rfl (Nat.le_of_ble_eq_true rfl) (Nat.le_of_ble_eq_true rfl) (by decide) rfl (cel_478 _ _ _) (fun _ e => t_X0_at N x1 (sI S 502 x1.toNatClampNeg x2) _ e) (by decide) (fun v16 S15 hf => ?_)
      refine es_l (pc' := 32) (ls' := [(0, .ref (w.2.1 + 478)), (1, .int x1), (2, .int x2)]) (st' := [.int ((-1)), .int v16]) (fun _ _ k => e_iconst (v := (-1)) dX0_moves_31 (by decide) k) ?_
      refine es_br (c := v16 = ((-1))) (tgt := 37) (pf := 35) (st' := []) (fun _ _ a b => e_icmp_eq dX0_moves_32 rfl a b) (fun c17 => ?_) (fun c17 => ?_)
      · rw [if_pos c17] at hf
        refine es_l (pc' := 9) (ls' := [(2, .int (x2 + 1)), (0, .ref (w.2.1 + 478)), (1, .int x1)]) (st' := []) (fun _ _ k => e_iinc (v := x2 + 1) (ls' := [(2, .int (x2 + 1)), (0, .ref (w.2.1 + 478)), (1, .int x1)]) dX0_moves_37 2 rfl rfl (by decide) rfl (e_goto (tgt := 9) dX0_moves_40 rfl k)) ?_
        refine es_sub [1, 2, 0] rfl ?_
        exact ih x1 (x2 + 1) S15 r hf
      · rw [if_neg c17] at hf
        refine es_l (pc' := 36) (ls' := [(0, .ref (w.2.1 + 478)), (1, .int x1), (2, .int x2)]) (st' := [.int 1]) (fun _ _ k => e_iconst (v := 1) dX0_moves_35 (by decide) k) ?_
        exact es_ireturn (ty := .boolean) dX0_moves_36 rfl rfl hf
def f_X0_moves (N : Nat) (x1 : Int32) (S : xS) : Option xr :=
  if xin x1 10 then
  f_X0_moves_9 N N x1 ((S.1 502 x1.toNatClampNeg) + 1) S
  else none
set_option maxRecDepth 100000 in
set_option maxHeartbeats 4000000 in
theorem t_X0_moves {l : Launch} {w : xW} {g : Nat → xE} (N : Nat) (x1 : Int32) (S : xS) (r : xr) (hf : f_X0_moves N x1 S = some r) : ES l w g M_X0_moves 0 (lv_args 0 [.ref (w.2.1 + 478), .int x1]) [] S r := by
  show ES l w g M_X0_moves 0 [(0, .ref (w.2.1 + 478)), (1, .int x1)] [] S r
  unfold f_X0_moves at hf
  refine es_l (pc' := 1) (ls' := [(0, .ref (w.2.1 + 478)), (1, .int x1)]) (st' := [.ref (w.2.1 + 478)]) (fun _ _ k => e_aload_n dX0_moves_0 0 rfl k) ?_
  refine es_get (v := .ref (w.2.1 + 502)) xc_0 dX0_moves_1 fl_X0_23 (by decide) (by decide) (cel_478 _ _ _) rfl ?_
  refine es_l (pc' := 5) (ls' := [(0, .ref (w.2.1 + 478)), (1, .int x1)]) (st' := [.int x1, .ref (w.2.1 + 502)]) (fun _ _ k => e_iload_n dX0_moves_4 1 rfl k) ?_
  obtain ⟨g18, hf⟩ := xg hf
  refine es_iald (v := .int (S.1 502 x1.toNatClampNeg)) dX0_moves_5 (by decide) (cel_502 _ _ _) g18 rfl ?_
  refine es_l (pc' := 9) (ls' := [(2, .int ((S.1 502 x1.toNatClampNeg) + 1)), (0, .ref (w.2.1 + 478)), (1, .int x1)]) (st' := []) (fun _ _ k => e_iconst (v := 1) dX0_moves_6 (by decide) (e_iadd dX0_moves_7 (e_istore_n (ls' := [(2, .int ((S.1 502 x1.toNatClampNeg) + 1)), (0, .ref (w.2.1 + 478)), (1, .int x1)]) dX0_moves_8 (by decide) rfl k))) ?_
  refine es_sub [1, 2, 0] rfl ?_
  exact t_X0_moves_9 N N x1 ((S.1 502 x1.toNatClampNeg) + 1) S r hf
def f_X9_sort (N : Nat)  (S : xS) : Option xr :=
  if xin (S.1 1 7) 151 then
  some (.inl (some (.inl (S.1 4 ((S.1 1 7).toNatClampNeg)))), S)
  else none
set_option maxRecDepth 100000 in
set_option maxHeartbeats 4000000 in
theorem t_X9_sort {l : Launch} {w : xW} {g : Nat → xE} (N : Nat)  (S : xS) (r : xr) (hf : f_X9_sort N  S = some r) : ES l w g M_X9_sort 0 (lv_args 0 [.ref (w.2.1 + 1)]) [] S r := by
  show ES l w g M_X9_sort 0 [(0, .ref (w.2.1 + 1))] [] S r
  unfold f_X9_sort at hf
  refine es_l (pc' := 1) (ls' := [(0, .ref (w.2.1 + 1))]) (st' := [.ref (w.2.1 + 1)]) (fun _ _ k => e_aload_n dX9_sort_0 0 rfl k) ?_
  refine es_get (v := .ref (w.2.1 + 4)) xc_9 dX9_sort_1 fl_X9_19 (by decide) (by decide) (cel_1 _ _ _) rfl ?_
  refine es_l (pc' := 5) (ls' := [(0, .ref (w.2.1 + 1))]) (st' := [.ref (w.2.1 + 1), .ref (w.2.1 + 4)]) (fun _ _ k => e_aload_n dX9_sort_4 0 rfl k) ?_
  refine es_get (v := .int (S.1 1 7)) xc_9 dX9_sort_5 fl_X9_48 (by decide) (by decide) (cel_1 _ _ _) rfl ?_
  obtain ⟨g2, hf⟩ := xg hf
  refine es_iald (v := .int (S.1 4 ((S.1 1 7).toNatClampNeg))) dX9_sort_8 (by decide) (cel_4 _ _ _) g2 rfl ?_
  exact es_ireturn (ty := .int) dX9_sort_9 rfl rfl hf
def f_X1_rank (N : Nat) (x0 : Int32) (S : xS) : Option xr :=
  if (x0 : Int32).toInt ∈ [(14 : Int)] then
    some (.inl (some (.inl 2)), S)
  else
  if (x0 : Int32).toInt ∈ [(15 : Int)] then
    some (.inl (some (.inl 1)), S)
  else
  if (x0 : Int32).toInt ∈ [(16 : Int)] then
    some (.inl (some (.inl 3)), S)
  else
  if (x0 : Int32).toInt ∈ [(21 : Int), (22 : Int), (23 : Int), (37 : Int), (38 : Int), (39 : Int)] then
    some (.inl (some (.inl 4)), S)
  else
  if (x0 : Int32).toInt ∈ [(24 : Int), (25 : Int)] then
    some (.inl (some (.inl 5)), S)
  else
  if (x0 : Int32).toInt ∈ [(26 : Int), (27 : Int), (28 : Int)] then
    some (.inl (some (.inl 6)), S)
  else
  if (x0 : Int32).toInt ∈ [(44 : Int)] then
    some (.inl (some (.inl 7)), S)
  else
  some (.inl (some (.inl 0)), S)
set_option maxRecDepth 100000 in
set_option maxHeartbeats 4000000 in
theorem t_X1_rank {l : Launch} {w : xW} {g : Nat → xE} (N : Nat) (x0 : Int32) (S : xS) (r : xr) (hf : f_X1_rank N x0 S = some r) : ES l w g M_X1_rank 0 (lv_args 0 [.int x0]) [] S r := by
  show ES l w g M_X1_rank 0 [(0, .int x0)] [] S r
  unfold f_X1_rank at hf
  refine es_l (pc' := 1) (ls' := [(0, .int x0)]) (st' := [.int x0]) (fun _ _ k => e_iload_n dX1_rank_0 0 rfl k) ?_
  by_cases c8 : (x0 : Int32).toInt ∈ [(14 : Int)]
  · rw [if_pos c8] at hf
    refine es_l (pc' := 142) (ls' := [(0, .int x0)]) (st' := []) (fun _ _ k => e_tabC (off := 141) dX1_rank_1 c8 (by decide) rfl k) ?_
    refine es_l (pc' := 143) (ls' := [(0, .int x0)]) (st' := [.int 2]) (fun _ _ k => e_iconst (v := 2) dX1_rank_142 (by decide) k) ?_
    exact es_ireturn (ty := .int) dX1_rank_143 rfl rfl hf
  rw [if_neg c8] at hf
  by_cases c9 : (x0 : Int32).toInt ∈ [(15 : Int)]
  · rw [if_pos c9] at hf
    refine es_l (pc' := 140) (ls' := [(0, .int x0)]) (st' := []) (fun _ _ k => e_tabC (off := 139) dX1_rank_1 c9 (by decide) rfl k) ?_
    refine es_l (pc' := 141) (ls' := [(0, .int x0)]) (st' := [.int 1]) (fun _ _ k => e_iconst (v := 1) dX1_rank_140 (by decide) k) ?_
    exact es_ireturn (ty := .int) dX1_rank_141 rfl rfl hf
  rw [if_neg c9] at hf
  by_cases c10 : (x0 : Int32).toInt ∈ [(16 : Int)]
  · rw [if_pos c10] at hf
    refine es_l (pc' := 144) (ls' := [(0, .int x0)]) (st' := []) (fun _ _ k => e_tabC (off := 143) dX1_rank_1 c10 (by decide) rfl k) ?_
    refine es_l (pc' := 145) (ls' := [(0, .int x0)]) (st' := [.int 3]) (fun _ _ k => e_iconst (v := 3) dX1_rank_144 (by decide) k) ?_
    exact es_ireturn (ty := .int) dX1_rank_145 rfl rfl hf
  rw [if_neg c10] at hf
  by_cases c11 : (x0 : Int32).toInt ∈ [(21 : Int), (22 : Int), (23 : Int), (37 : Int), (38 : Int), (39 : Int)]
  · rw [if_pos c11] at hf
    refine es_l (pc' := 146) (ls' := [(0, .int x0)]) (st' := []) (fun _ _ k => e_tabC (off := 145) dX1_rank_1 c11 (by decide) rfl k) ?_
    refine es_l (pc' := 147) (ls' := [(0, .int x0)]) (st' := [.int 4]) (fun _ _ k => e_iconst (v := 4) dX1_rank_146 (by decide) k) ?_
    exact es_ireturn (ty := .int) dX1_rank_147 rfl rfl hf
  rw [if_neg c11] at hf
  by_cases c12 : (x0 : Int32).toInt ∈ [(24 : Int), (25 : Int)]
  · rw [if_pos c12] at hf
    refine es_l (pc' := 148) (ls' := [(0, .int x0)]) (st' := []) (fun _ _ k => e_tabC (off := 147) dX1_rank_1 c12 (by decide) rfl k) ?_
    refine es_l (pc' := 149) (ls' := [(0, .int x0)]) (st' := [.int 5]) (fun _ _ k => e_iconst (v := 5) dX1_rank_148 (by decide) k) ?_
    exact es_ireturn (ty := .int) dX1_rank_149 rfl rfl hf
  rw [if_neg c12] at hf
  by_cases c13 : (x0 : Int32).toInt ∈ [(26 : Int), (27 : Int), (28 : Int)]
  · rw [if_pos c13] at hf
    refine es_l (pc' := 150) (ls' := [(0, .int x0)]) (st' := []) (fun _ _ k => e_tabC (off := 149) dX1_rank_1 c13 (by decide) rfl k) ?_
    refine es_l (pc' := 152) (ls' := [(0, .int x0)]) (st' := [.int 6]) (fun _ _ k => e_bipush (v := 6) dX1_rank_150 (by decide) k) ?_
    exact es_ireturn (ty := .int) dX1_rank_152 rfl rfl hf
  rw [if_neg c13] at hf
  by_cases c14 : (x0 : Int32).toInt ∈ [(44 : Int)]
  · rw [if_pos c14] at hf
    refine es_l (pc' := 153) (ls' := [(0, .int x0)]) (st' := []) (fun _ _ k => e_tabC (off := 152) dX1_rank_1 c14 (by decide) rfl k) ?_
    refine es_l (pc' := 155) (ls' := [(0, .int x0)]) (st' := [.int 7]) (fun _ _ k => e_bipush (v := 7) dX1_rank_153 (by decide) k) ?_
    exact es_ireturn (ty := .int) dX1_rank_155 rfl rfl hf
  rw [if_neg c14] at hf
  refine es_l (pc' := 156) (ls' := [(0, .int x0)]) (st' := []) (fun _ _ k => e_tabD (L := [14, 15, 16, 21, 22, 23, 37, 38, 39, 24, 25, 26, 27, 28, 44]) dX1_rank_1 (by  simp only [List.mem_cons, List.not_mem_nil, or_false] at *; omega) (by decide) rfl k) ?_
  refine es_l (pc' := 157) (ls' := [(0, .int x0)]) (st' := [.int 0]) (fun _ _ k => e_iconst (v := 0) dX1_rank_156 (by decide) k) ?_
  exact es_ireturn (ty := .int) dX1_rank_157 rfl rfl hf
def f_X1_goesOn_48 (N : Nat)  (s0 : Int32) (S : xS) : Option xr :=
  if xbo s0 then
  some (.inl (some (.inl s0)), S)
  else none
set_option maxRecDepth 100000 in
set_option maxHeartbeats 4000000 in
theorem t_X1_goesOn_48 {l : Launch} {w : xW} {g : Nat → xE} (N : Nat)   (s0 : Int32) (S : xS) (r : xr) (hf : f_X1_goesOn_48 N  s0 S = some r) : ES l w g M_X1_goesOn 48 [] [.int s0] S r := by
  unfold f_X1_goesOn_48 at hf
  obtain ⟨g19, hf⟩ := xg hf
  exact es_ireturn (ty := .boolean) dX1_goesOn_48 rfl (xbo_n g19) hf
def f_X1_goesOn_47 (N : Nat)   (S : xS) : Option xr :=
  f_X1_goesOn_48 N 0 S
set_option maxRecDepth 100000 in
set_option maxHeartbeats 4000000 in
theorem t_X1_goesOn_47 {l : Launch} {w : xW} {g : Nat → xE} (N : Nat)    (S : xS) (r : xr) (hf : f_X1_goesOn_47 N   S = some r) : ES l w g M_X1_goesOn 47 [] [] S r := by
  unfold f_X1_goesOn_47 at hf
  refine es_l (pc' := 48) (ls' := []) (st' := [.int 0]) (fun _ _ k => e_iconst (v := 0) dX1_goesOn_47 (by decide) k) ?_
  exact t_X1_goesOn_48 N 0 S r hf
def f_X1_goesOn (N : Nat)  (S : xS) : Option xr :=
  xcI (f_X9_sort N S) (fun v21 S20 =>
  if v21 = 30 then
    if (S20.1 407 6) ≤ 0 then
      f_X1_goesOn_48 N 0 S20
    else
      f_X1_goesOn_48 N 1 S20
  else
    if v21 = 16 then
      f_X1_goesOn_47 N S20
    else
      xcI (f_X1_rank N v21 S20) (fun v26 S25 =>
      if v26 < 1 then
        f_X1_goesOn_47 N S25
      else
        f_X1_goesOn_48 N 1 S25
      )
  )
set_option maxRecDepth 100000 in
set_option maxHeartbeats 4000000 in
theorem t_X1_goesOn {l : Launch} {w : xW} {g : Nat → xE} (N : Nat)  (S : xS) (r : xr) (hf : f_X1_goesOn N  S = some r) : ES l w g M_X1_goesOn 0 (lv_args 0 [.ref (w.2.1 + 407)]) [] S r := by
  show ES l w g M_X1_goesOn 0 [(0, .ref (w.2.1 + 407))] [] S r
  unfold f_X1_goesOn at hf
  refine es_l (pc' := 1) (ls' := [(0, .ref (w.2.1 + 407))]) (st' := [.ref (w.2.1 + 407)]) (fun _ _ k => e_aload_n dX1_goesOn_0 0 rfl k) ?_
  refine es_get (v := .ref (w.2.1 + 1)) xc_1 dX1_goesOn_1 fl_X1_15 (by decide) (by decide) (cel_407 _ _ _) rfl ?_
  refine es_callVI (as := []) (rest := []) hf xc_9 dX1_goesOn_4 cs_X1_goesOn_X9_sort ml_X1_50 im_X9_sort se_X9_sort rfl rfl (Nat.le_of_ble_eq_true rfl) (Nat.le_of_ble_eq_true rfl) (by decide) rfl (cel_1 _ _ _) (fun _ e => t_X9_sort N  S _ e) (by decide) (fun v21 S20 hf => ?_)
  refine es_l (pc' := 11) (ls' := [(1, .int v21), (0, .ref (w.2.1 + 407))]) (st' := [.int 30, .int v21]) (fun _ _ k => e_istore_n (ls' := [(1, .int v21), (0, .ref (w.2.1 + 407))]) dX1_goesOn_7 (by decide) rfl (e_iload_n dX1_goesOn_8 0 rfl (e_bipush (v := 30) dX1_goesOn_9 (by decide) k))) ?_
  refine es_br (c := v21 = 30) (tgt := 14) (pf := 29) (st' := []) (fun _ _ a b => e_icmp_ne dX1_goesOn_11 rfl b a) (fun c22 => ?_) (fun c22 => ?_)
  · rw [if_pos c22] at hf
    refine es_l (pc' := 15) (ls' := [(1, .int v21), (0, .ref (w.2.1 + 407))]) (st' := [.ref (w.2.1 + 407)]) (fun _ _ k => e_aload_n dX1_goesOn_14 1 rfl k) ?_
    refine es_get (v := .int (S20.1 407 6)) xc_1 dX1_goesOn_15 fl_X1_38 (by decide) (by decide) (cel_407 _ _ _) rfl ?_
    refine es_br (c := (S20.1 407 6) ≤ 0) (tgt := 25) (pf := 21) (st' := []) (fun _ _ a b => e_if_le dX1_goesOn_18 rfl a b) (fun c23 => ?_) (fun c23 => ?_)
    · rw [if_pos c23] at hf
      refine es_l (pc' := 48) (ls' := [(1, .int v21), (0, .ref (w.2.1 + 407))]) (st' := [.int 0]) (fun _ _ k => e_iconst (v := 0) dX1_goesOn_25 (by decide) (e_goto (tgt := 48) dX1_goesOn_26 rfl k)) ?_
      refine es_sub [] rfl ?_
      exact t_X1_goesOn_48 N 0 S20 r hf
    · rw [if_neg c23] at hf
      refine es_l (pc' := 48) (ls' := [(1, .int v21), (0, .ref (w.2.1 + 407))]) (st' := [.int 1]) (fun _ _ k => e_iconst (v := 1) dX1_goesOn_21 (by decide) (e_goto (tgt := 48) dX1_goesOn_22 rfl k)) ?_
      refine es_sub [] rfl ?_
      exact t_X1_goesOn_48 N 1 S20 r hf
  · rw [if_neg c22] at hf
    refine es_l (pc' := 32) (ls' := [(1, .int v21), (0, .ref (w.2.1 + 407))]) (st' := [.int 16, .int v21]) (fun _ _ k => e_iload_n dX1_goesOn_29 0 rfl (e_bipush (v := 16) dX1_goesOn_30 (by decide) k)) ?_
    refine es_br (c := v21 = 16) (tgt := 47) (pf := 35) (st' := []) (fun _ _ a b => e_icmp_eq dX1_goesOn_32 rfl a b) (fun c24 => ?_) (fun c24 => ?_)
    · rw [if_pos c24] at hf
      refine es_sub [] rfl ?_
      exact t_X1_goesOn_47 N S20 r hf
    · rw [if_neg c24] at hf
      refine es_l (pc' := 36) (ls' := [(1, .int v21), (0, .ref (w.2.1 + 407))]) (st' := [.int v21]) (fun _ _ k => e_iload_n dX1_goesOn_35 0 rfl k) ?_
      refine es_callSI (as := [.int v21]) (rest := []) hf dX1_goesOn_36 cs_X1_goesOn_X1_rank ml_X1_100 st_X1_rank rfl rfl (Nat.le_of_ble_eq_true rfl) (Nat.le_of_ble_eq_true rfl) (fun _ e => t_X1_rank N v21 S20 _ e) (by decide) (fun v26 S25 hf => ?_)
      refine es_l (pc' := 40) (ls' := [(1, .int v21), (0, .ref (w.2.1 + 407))]) (st' := [.int 1, .int v26]) (fun _ _ k => e_iconst (v := 1) dX1_goesOn_39 (by decide) k) ?_
      refine es_br (c := v26 < 1) (tgt := 47) (pf := 43) (st' := []) (fun _ _ a b => e_icmp_lt dX1_goesOn_40 rfl a b) (fun c27 => ?_) (fun c27 => ?_)
      · rw [if_pos c27] at hf
        refine es_sub [] rfl ?_
        exact t_X1_goesOn_47 N S25 r hf
      · rw [if_neg c27] at hf
        refine es_l (pc' := 48) (ls' := [(1, .int v21), (0, .ref (w.2.1 + 407))]) (st' := [.int 1]) (fun _ _ k => e_iconst (v := 1) dX1_goesOn_43 (by decide) (e_goto (tgt := 48) dX1_goesOn_44 rfl k)) ?_
        refine es_sub [] rfl ?_
        exact t_X1_goesOn_48 N 1 S25 r hf
def f_X5_addPart (N : Nat) (x1 : Int32) (S : xS) : Option xr :=
  if xin (S.1 97 5) 151 then
  some (.inl (some (.inr (.inr (103 + 2 * (S.1 97 5).toNatClampNeg)))), sI (sI S (103 + 2 * (S.1 97 5).toNatClampNeg) 0 x1) 97 5 (((sI S (103 + 2 * (S.1 97 5).toNatClampNeg) 0 x1).1 97 5) + 1))
  else none
set_option maxRecDepth 100000 in
set_option maxHeartbeats 4000000 in
theorem t_X5_addPart {l : Launch} {w : xW} {g : Nat → xE} (N : Nat) (x1 : Int32) (S : xS) (r : xr) (hf : f_X5_addPart N x1 S = some r) : ES l w g M_X5_addPart 0 (lv_args 0 [.ref (w.2.1 + 97), .int x1]) [] S r := by
  show ES l w g M_X5_addPart 0 [(0, .ref (w.2.1 + 97)), (1, .int x1)] [] S r
  unfold f_X5_addPart at hf
  refine es_l (pc' := 1) (ls' := [(0, .ref (w.2.1 + 97)), (1, .int x1)]) (st' := [.ref (w.2.1 + 97)]) (fun _ _ k => e_aload_n dX5_addPart_0 0 rfl k) ?_
  refine es_get (v := .ref (w.2.1 + 99)) xc_5 dX5_addPart_1 fl_X5_19 (by decide) (by decide) (cel_97 _ _ _) rfl ?_
  refine es_l (pc' := 5) (ls' := [(0, .ref (w.2.1 + 97)), (1, .int x1)]) (st' := [.ref (w.2.1 + 97), .ref (w.2.1 + 99)]) (fun _ _ k => e_aload_n dX5_addPart_4 0 rfl k) ?_
  refine es_get (v := .int (S.1 97 5)) xc_5 dX5_addPart_5 fl_X5_36 (by decide) (by decide) (cel_97 _ _ _) rfl ?_
  obtain ⟨g2, hf⟩ := xg hf
  refine es_aald (v := .ref (w.2.1 + (103 + 2 * (S.1 97 5).toNatClampNeg))) rfl dX5_addPart_8 (by decide) (cel_99 _ _ _) g2 rfl ?_
  refine es_l (pc' := 12) (ls' := [(2, .ref (w.2.1 + (103 + 2 * (S.1 97 5).toNatClampNeg))), (0, .ref (w.2.1 + 97)), (1, .int x1)]) (st' := [.int x1, .ref (w.2.1 + (103 + 2 * (S.1 97 5).toNatClampNeg))]) (fun _ _ k => e_astore_n (ls' := [(2, .ref (w.2.1 + (103 + 2 * (S.1 97 5).toNatClampNeg))), (0, .ref (w.2.1 + 97)), (1, .int x1)]) dX5_addPart_9 (by decide) rfl (e_aload_n dX5_addPart_10 0 rfl (e_iload_n dX5_addPart_11 2 rfl k))) ?_
  refine es_put xc_4 dX5_addPart_12 fl_X5_45 (by decide) (by decide) (xPart_lt (xPart_at g2)) (cel_pa (xPart_at g2) _ _ _) rfl rfl rfl (by rw [cel_pa (xPart_at g2)]; rfl) ?_
  refine es_l (pc' := 17) (ls' := [(2, .ref (w.2.1 + (103 + 2 * (S.1 97 5).toNatClampNeg))), (0, .ref (w.2.1 + 97)), (1, .int x1)]) (st' := [.ref (w.2.1 + 97), .ref (w.2.1 + 97)]) (fun _ _ k => e_aload_n dX5_addPart_15 1 rfl (e_dup dX5_addPart_16 rfl k)) ?_
  refine es_get (v := .int ((sI S (103 + 2 * (S.1 97 5).toNatClampNeg) 0 x1).1 97 5)) xc_5 dX5_addPart_17 fl_X5_36 (by decide) (by decide) (cel_97 _ _ _) rfl ?_
  refine es_l (pc' := 22) (ls' := [(2, .ref (w.2.1 + (103 + 2 * (S.1 97 5).toNatClampNeg))), (0, .ref (w.2.1 + 97)), (1, .int x1)]) (st' := [.int (((sI S (103 + 2 * (S.1 97 5).toNatClampNeg) 0 x1).1 97 5) + 1), .ref (w.2.1 + 97)]) (fun _ _ k => e_iconst (v := 1) dX5_addPart_20 (by decide) (e_iadd dX5_addPart_21 k)) ?_
  refine es_put xc_5 dX5_addPart_22 fl_X5_36 (by decide) (by decide) (by decide) (cel_97 _ _ _) rfl rfl rfl rfl ?_
  refine es_l (pc' := 26) (ls' := [(2, .ref (w.2.1 + (103 + 2 * (S.1 97 5).toNatClampNeg))), (0, .ref (w.2.1 + 97)), (1, .int x1)]) (st' := [.ref (w.2.1 + (103 + 2 * (S.1 97 5).toNatClampNeg))]) (fun _ _ k => e_aload_n dX5_addPart_25 0 rfl k) ?_
  exact es_areturn (v := (103 + 2 * (S.1 97 5).toNatClampNeg)) dX5_addPart_26 rfl (Or.inl ⟨_, rfl⟩) hf
def f_X1_release_55 (N : Nat)   (S : xS) : Option xr :=
  some (.inl none, S)
set_option maxRecDepth 100000 in
set_option maxHeartbeats 4000000 in
theorem t_X1_release_55 {l : Launch} {w : xW} {g : Nat → xE} (N : Nat)    (S : xS) (r : xr) (hf : f_X1_release_55 N   S = some r) : ES l w g M_X1_release 55 [] [] S r := by
  unfold f_X1_release_55 at hf
  exact es_return dX1_release_55 rfl hf
def f_X1_release_0 (N : Nat)  : Nat → Int32 → xS → Option xr
  | 0, _, _ => none
  | n + 1, x1, S =>
  if (S.1 407 5) ≤ 0 then
    f_X1_release_55 N S
  else
    if xin ((S.1 407 5) - 1) 151 then
    xcI (f_X1_rank N (S.1 408 (((S.1 407 5) - 1).toNatClampNeg)) S) (fun v36 S35 =>
    if v36 < x1 then
      f_X1_release_55 N S35
    else
      if xin ((S35.1 407 5) - 1) 151 then
      xcR (f_X5_addPart N (S35.1 408 (((S35.1 407 5) - 1).toNatClampNeg)) (sI S35 407 5 ((S35.1 407 5) - 1))) (fun v40 S39 =>
      f_X1_release_0 N n x1 S39
      )
      else none
    )
    else none
set_option maxRecDepth 100000 in
set_option maxHeartbeats 4000000 in
theorem t_X1_release_0 {l : Launch} {w : xW} {g : Nat → xE} (N : Nat)   : ∀ (n : Nat) (x1 : Int32) (S : xS) (r : xr), f_X1_release_0 N  n x1 S = some r → ES l w g M_X1_release 0 [(0, .ref (w.2.1 + 407)), (1, .int x1)] [] S r := by
  intro n
  induction n with
  | zero => intro x1 S r hf; cases hf
  | succ n ih =>
    intro x1 S r hf
    rw [f_X1_release_0.eq_2] at hf
    refine es_l (pc' := 1) (ls' := [(0, .ref (w.2.1 + 407)), (1, .int x1)]) (st' := [.ref (w.2.1 + 407)]) (fun _ _ k => e_aload_n dX1_release_0 0 rfl k) ?_
    refine es_get (v := .int (S.1 407 5)) xc_1 dX1_release_1 fl_X1_35 (by decide) (by decide) (cel_407 _ _ _) rfl ?_
    refine es_br (c := (S.1 407 5) ≤ 0) (tgt := 55) (pf := 7) (st' := []) (fun _ _ a b => e_if_le dX1_release_4 rfl a b) (fun c33 => ?_) (fun c33 => ?_)
    · rw [if_pos c33] at hf
      refine es_sub [] rfl ?_
      exact t_X1_release_55 N S r hf
    · rw [if_neg c33] at hf
      refine es_l (pc' := 8) (ls' := [(0, .ref (w.2.1 + 407)), (1, .int x1)]) (st' := [.ref (w.2.1 + 407)]) (fun _ _ k => e_aload_n dX1_release_7 0 rfl k) ?_
      refine es_get (v := .ref (w.2.1 + 408)) xc_1 dX1_release_8 fl_X1_9 (by decide) (by decide) (cel_407 _ _ _) rfl ?_
      refine es_l (pc' := 12) (ls' := [(0, .ref (w.2.1 + 407)), (1, .int x1)]) (st' := [.ref (w.2.1 + 407), .ref (w.2.1 + 408)]) (fun _ _ k => e_aload_n dX1_release_11 0 rfl k) ?_
      refine es_get (v := .int (S.1 407 5)) xc_1 dX1_release_12 fl_X1_35 (by decide) (by decide) (cel_407 _ _ _) rfl ?_
      refine es_l (pc' := 17) (ls' := [(0, .ref (w.2.1 + 407)), (1, .int x1)]) (st' := [.int ((S.1 407 5) - 1), .ref (w.2.1 + 408)]) (fun _ _ k => e_iconst (v := 1) dX1_release_15 (by decide) (e_isub dX1_release_16 k)) ?_
      obtain ⟨g34, hf⟩ := xg hf
      refine es_iald (v := .int (S.1 408 (((S.1 407 5) - 1).toNatClampNeg))) dX1_release_17 (by decide) (cel_408 _ _ _) g34 rfl ?_
      refine es_callSI (as := [.int (S.1 408 (((S.1 407 5) - 1).toNatClampNeg))]) (rest := []) hf dX1_release_18 cs_X1_release_X1_rank ml_X1_100 st_X1_rank rfl rfl (Nat.le_of_ble_eq_true rfl) (Nat.le_of_ble_eq_true rfl) (fun _ e => t_X1_rank N (S.1 408 (((S.1 407 5) - 1).toNatClampNeg)) S _ e) (by decide) (fun v36 S35 hf => ?_)
      refine es_l (pc' := 22) (ls' := [(0, .ref (w.2.1 + 407)), (1, .int x1)]) (st' := [.int x1, .int v36]) (fun _ _ k => e_iload_n dX1_release_21 1 rfl k) ?_
      refine es_br (c := v36 < x1) (tgt := 55) (pf := 25) (st' := []) (fun _ _ a b => e_icmp_lt dX1_release_22 rfl a b) (fun c37 => ?_) (fun c37 => ?_)
      · rw [if_pos c37] at hf
        refine es_sub [] rfl ?_
        exact t_X1_release_55 N S35 r hf
      · rw [if_neg c37] at hf
        refine es_l (pc' := 27) (ls' := [(0, .ref (w.2.1 + 407)), (1, .int x1)]) (st' := [.ref (w.2.1 + 407), .ref (w.2.1 + 407)]) (fun _ _ k => e_aload_n dX1_release_25 0 rfl (e_dup dX1_release_26 rfl k)) ?_
        refine es_get (v := .int (S35.1 407 5)) xc_1 dX1_release_27 fl_X1_35 (by decide) (by decide) (cel_407 _ _ _) rfl ?_
        refine es_l (pc' := 32) (ls' := [(0, .ref (w.2.1 + 407)), (1, .int x1)]) (st' := [.int ((S35.1 407 5) - 1), .ref (w.2.1 + 407)]) (fun _ _ k => e_iconst (v := 1) dX1_release_30 (by decide) (e_isub dX1_release_31 k)) ?_
        refine es_put xc_1 dX1_release_32 fl_X1_35 (by decide) (by decide) (by decide) (cel_407 _ _ _) rfl rfl rfl rfl ?_
        refine es_l (pc' := 36) (ls' := [(0, .ref (w.2.1 + 407)), (1, .int x1)]) (st' := [.ref (w.2.1 + 407)]) (fun _ _ k => e_aload_n dX1_release_35 0 rfl k) ?_
        refine es_get (v := .ref (w.2.1 + 97)) xc_1 dX1_release_36 fl_X1_23 (by decide) (by decide) (cel_407 _ _ _) rfl ?_
        refine es_l (pc' := 40) (ls' := [(0, .ref (w.2.1 + 407)), (1, .int x1)]) (st' := [.ref (w.2.1 + 407), .ref (w.2.1 + 97)]) (fun _ _ k => e_aload_n dX1_release_39 0 rfl k) ?_
        refine es_get (v := .ref (w.2.1 + 408)) xc_1 dX1_release_40 fl_X1_9 (by decide) (by decide) (cel_407 _ _ _) rfl ?_
        refine es_l (pc' := 44) (ls' := [(0, .ref (w.2.1 + 407)), (1, .int x1)]) (st' := [.ref (w.2.1 + 407), .ref (w.2.1 + 408), .ref (w.2.1 + 97)]) (fun _ _ k => e_aload_n dX1_release_43 0 rfl k) ?_
        refine es_get (v := .int ((S35.1 407 5) - 1)) xc_1 dX1_release_44 fl_X1_35 (by decide) (by decide) (cel_407 _ _ _) rfl ?_
        obtain ⟨g38, hf⟩ := xg hf
        refine es_iald (v := .int (S35.1 408 (((S35.1 407 5) - 1).toNatClampNeg))) dX1_release_47 (by decide) (cel_408 _ _ _) g38 rfl ?_
        refine es_callVR (as := [.int (S35.1 408 (((S35.1 407 5) - 1).toNatClampNeg))]) (rest := []) hf xc_5 dX1_release_48 cs_X1_release_X5_addPart ml_X1_62 im_X5_addPart se_X5_addPart rfl rfl (Nat.le_of_ble_eq_true rfl) (Nat.le_of_ble_eq_true rfl) (by decide) rfl (cel_97 _ _ _) (fun _ e => t_X5_addPart N (S35.1 408 (((S35.1 407 5) - 1).toNatClampNeg)) (sI S35 407 5 ((S35.1 407 5) - 1)) _ e) (by decide) (fun v40 S39 hf => ?_)
        refine es_l (pc' := 0) (ls' := [(0, .ref (w.2.1 + 407)), (1, .int x1)]) (st' := []) (fun _ _ k => e_pop dX1_release_51 rfl (e_goto (tgt := 0) dX1_release_52 rfl k)) ?_
        exact ih x1 S39 r hf
def f_X1_release (N : Nat) (x1 : Int32) (S : xS) : Option xr :=
  if (S.1 407 5) ≤ 0 then
    f_X1_release_55 N S
  else
    if xin ((S.1 407 5) - 1) 151 then
    xcI (f_X1_rank N (S.1 408 (((S.1 407 5) - 1).toNatClampNeg)) S) (fun v44 S43 =>
    if v44 < x1 then
      f_X1_release_55 N S43
    else
      if xin ((S43.1 407 5) - 1) 151 then
      xcR (f_X5_addPart N (S43.1 408 (((S43.1 407 5) - 1).toNatClampNeg)) (sI S43 407 5 ((S43.1 407 5) - 1))) (fun v48 S47 =>
      f_X1_release_0 N N x1 S47
      )
      else none
    )
    else none
set_option maxRecDepth 100000 in
set_option maxHeartbeats 4000000 in
theorem t_X1_release {l : Launch} {w : xW} {g : Nat → xE} (N : Nat) (x1 : Int32) (S : xS) (r : xr) (hf : f_X1_release N x1 S = some r) : ES l w g M_X1_release 0 (lv_args 0 [.ref (w.2.1 + 407), .int x1]) [] S r := by
  show ES l w g M_X1_release 0 [(0, .ref (w.2.1 + 407)), (1, .int x1)] [] S r
  unfold f_X1_release at hf
  refine es_l (pc' := 1) (ls' := [(0, .ref (w.2.1 + 407)), (1, .int x1)]) (st' := [.ref (w.2.1 + 407)]) (fun _ _ k => e_aload_n dX1_release_0 0 rfl k) ?_
  refine es_get (v := .int (S.1 407 5)) xc_1 dX1_release_1 fl_X1_35 (by decide) (by decide) (cel_407 _ _ _) rfl ?_
  refine es_br (c := (S.1 407 5) ≤ 0) (tgt := 55) (pf := 7) (st' := []) (fun _ _ a b => e_if_le dX1_release_4 rfl a b) (fun c41 => ?_) (fun c41 => ?_)
  · rw [if_pos c41] at hf
    refine es_sub [] rfl ?_
    exact t_X1_release_55 N S r hf
  · rw [if_neg c41] at hf
    refine es_l (pc' := 8) (ls' := [(0, .ref (w.2.1 + 407)), (1, .int x1)]) (st' := [.ref (w.2.1 + 407)]) (fun _ _ k => e_aload_n dX1_release_7 0 rfl k) ?_
    refine es_get (v := .ref (w.2.1 + 408)) xc_1 dX1_release_8 fl_X1_9 (by decide) (by decide) (cel_407 _ _ _) rfl ?_
    refine es_l (pc' := 12) (ls' := [(0, .ref (w.2.1 + 407)), (1, .int x1)]) (st' := [.ref (w.2.1 + 407), .ref (w.2.1 + 408)]) (fun _ _ k => e_aload_n dX1_release_11 0 rfl k) ?_
    refine es_get (v := .int (S.1 407 5)) xc_1 dX1_release_12 fl_X1_35 (by decide) (by decide) (cel_407 _ _ _) rfl ?_
    refine es_l (pc' := 17) (ls' := [(0, .ref (w.2.1 + 407)), (1, .int x1)]) (st' := [.int ((S.1 407 5) - 1), .ref (w.2.1 + 408)]) (fun _ _ k => e_iconst (v := 1) dX1_release_15 (by decide) (e_isub dX1_release_16 k)) ?_
    obtain ⟨g42, hf⟩ := xg hf
    refine es_iald (v := .int (S.1 408 (((S.1 407 5) - 1).toNatClampNeg))) dX1_release_17 (by decide) (cel_408 _ _ _) g42 rfl ?_
    refine es_callSI (as := [.int (S.1 408 (((S.1 407 5) - 1).toNatClampNeg))]) (rest := []) hf dX1_release_18 cs_X1_release_X1_rank ml_X1_100 st_X1_rank rfl rfl (Nat.le_of_ble_eq_true rfl) (Nat.le_of_ble_eq_true rfl) (fun _ e => t_X1_rank N (S.1 408 (((S.1 407 5) - 1).toNatClampNeg)) S _ e) (by decide) (fun v44 S43 hf => ?_)
    refine es_l (pc' := 22) (ls' := [(0, .ref (w.2.1 + 407)), (1, .int x1)]) (st' := [.int x1, .int v44]) (fun _ _ k => e_iload_n dX1_release_21 1 rfl k) ?_
    refine es_br (c := v44 < x1) (tgt := 55) (pf := 25) (st' := []) (fun _ _ a b => e_icmp_lt dX1_release_22 rfl a b) (fun c45 => ?_) (fun c45 => ?_)
    · rw [if_pos c45] at hf
      refine es_sub [] rfl ?_
      exact t_X1_release_55 N S43 r hf
    · rw [if_neg c45] at hf
      refine es_l (pc' := 27) (ls' := [(0, .ref (w.2.1 + 407)), (1, .int x1)]) (st' := [.ref (w.2.1 + 407), .ref (w.2.1 + 407)]) (fun _ _ k => e_aload_n dX1_release_25 0 rfl (e_dup dX1_release_26 rfl k)) ?_
      refine es_get (v := .int (S43.1 407 5)) xc_1 dX1_release_27 fl_X1_35 (by decide) (by decide) (cel_407 _ _ _) rfl ?_
      refine es_l (pc' := 32) (ls' := [(0, .ref (w.2.1 + 407)), (1, .int x1)]) (st' := [.int ((S43.1 407 5) - 1), .ref (w.2.1 + 407)]) (fun _ _ k => e_iconst (v := 1) dX1_release_30 (by decide) (e_isub dX1_release_31 k)) ?_
      refine es_put xc_1 dX1_release_32 fl_X1_35 (by decide) (by decide) (by decide) (cel_407 _ _ _) rfl rfl rfl rfl ?_
      refine es_l (pc' := 36) (ls' := [(0, .ref (w.2.1 + 407)), (1, .int x1)]) (st' := [.ref (w.2.1 + 407)]) (fun _ _ k => e_aload_n dX1_release_35 0 rfl k) ?_
      refine es_get (v := .ref (w.2.1 + 97)) xc_1 dX1_release_36 fl_X1_23 (by decide) (by decide) (cel_407 _ _ _) rfl ?_
      refine es_l (pc' := 40) (ls' := [(0, .ref (w.2.1 + 407)), (1, .int x1)]) (st' := [.ref (w.2.1 + 407), .ref (w.2.1 + 97)]) (fun _ _ k => e_aload_n dX1_release_39 0 rfl k) ?_
      refine es_get (v := .ref (w.2.1 + 408)) xc_1 dX1_release_40 fl_X1_9 (by decide) (by decide) (cel_407 _ _ _) rfl ?_
      refine es_l (pc' := 44) (ls' := [(0, .ref (w.2.1 + 407)), (1, .int x1)]) (st' := [.ref (w.2.1 + 407), .ref (w.2.1 + 408), .ref (w.2.1 + 97)]) (fun _ _ k => e_aload_n dX1_release_43 0 rfl k) ?_
      refine es_get (v := .int ((S43.1 407 5) - 1)) xc_1 dX1_release_44 fl_X1_35 (by decide) (by decide) (cel_407 _ _ _) rfl ?_
      obtain ⟨g46, hf⟩ := xg hf
      refine es_iald (v := .int (S43.1 408 (((S43.1 407 5) - 1).toNatClampNeg))) dX1_release_47 (by decide) (cel_408 _ _ _) g46 rfl ?_
      refine es_callVR (as := [.int (S43.1 408 (((S43.1 407 5) - 1).toNatClampNeg))]) (rest := []) hf xc_5 dX1_release_48 cs_X1_release_X5_addPart ml_X1_62 im_X5_addPart se_X5_addPart rfl rfl (Nat.le_of_ble_eq_true rfl) (Nat.le_of_ble_eq_true rfl) (by decide) rfl (cel_97 _ _ _) (fun _ e => t_X5_addPart N (S43.1 408 (((S43.1 407 5) - 1).toNatClampNeg)) (sI S43 407 5 ((S43.1 407 5) - 1)) _ e) (by decide) (fun v48 S47 hf => ?_)
      refine es_l (pc' := 0) (ls' := [(0, .ref (w.2.1 + 407)), (1, .int x1)]) (st' := []) (fun _ _ k => e_pop dX1_release_51 rfl (e_goto (tgt := 0) dX1_release_52 rfl k)) ?_
      exact t_X1_release_0 N N x1 S47 r hf
def f_X9_take (N : Nat) (x1 : Int32) (S : xS) : Option xr :=
  if xin (S.1 1 7) 151 then
  if (S.1 4 ((S.1 1 7).toNatClampNeg)) = x1 then
    some (.inl none, sI S 1 7 ((S.1 1 7) + 1))
  else
    some (.inr "java/lang/IllegalArgumentException", sE S)
  else none
set_option maxRecDepth 100000 in
set_option maxHeartbeats 4000000 in
theorem t_X9_take {l : Launch} {w : xW} {g : Nat → xE} (N : Nat) (x1 : Int32) (S : xS) (r : xr) (hf : f_X9_take N x1 S = some r) : ES l w g M_X9_take 0 (lv_args 0 [.ref (w.2.1 + 1), .int x1]) [] S r := by
  show ES l w g M_X9_take 0 [(0, .ref (w.2.1 + 1)), (1, .int x1)] [] S r
  unfold f_X9_take at hf
  refine es_l (pc' := 1) (ls' := [(0, .ref (w.2.1 + 1)), (1, .int x1)]) (st' := [.ref (w.2.1 + 1)]) (fun _ _ k => e_aload_n dX9_take_0 0 rfl k) ?_
  refine es_get (v := .ref (w.2.1 + 4)) xc_9 dX9_take_1 fl_X9_19 (by decide) (by decide) (cel_1 _ _ _) rfl ?_
  refine es_l (pc' := 5) (ls' := [(0, .ref (w.2.1 + 1)), (1, .int x1)]) (st' := [.ref (w.2.1 + 1), .ref (w.2.1 + 4)]) (fun _ _ k => e_aload_n dX9_take_4 0 rfl k) ?_
  refine es_get (v := .int (S.1 1 7)) xc_9 dX9_take_5 fl_X9_48 (by decide) (by decide) (cel_1 _ _ _) rfl ?_
  obtain ⟨g3, hf⟩ := xg hf
  refine es_iald (v := .int (S.1 4 ((S.1 1 7).toNatClampNeg))) dX9_take_8 (by decide) (cel_4 _ _ _) g3 rfl ?_
  refine es_l (pc' := 10) (ls' := [(0, .ref (w.2.1 + 1)), (1, .int x1)]) (st' := [.int x1, .int (S.1 4 ((S.1 1 7).toNatClampNeg))]) (fun _ _ k => e_iload_n dX9_take_9 1 rfl k) ?_
  refine es_br (c := (S.1 4 ((S.1 1 7).toNatClampNeg)) = x1) (tgt := 21) (pf := 13) (st' := []) (fun _ _ a b => e_icmp_eq dX9_take_10 rfl a b) (fun c4 => ?_) (fun c4 => ?_)
  · rw [if_pos c4] at hf
    refine es_l (pc' := 23) (ls' := [(0, .ref (w.2.1 + 1)), (1, .int x1)]) (st' := [.ref (w.2.1 + 1), .ref (w.2.1 + 1)]) (fun _ _ k => e_aload_n dX9_take_21 0 rfl (e_dup dX9_take_22 rfl k)) ?_
    refine es_get (v := .int (S.1 1 7)) xc_9 dX9_take_23 fl_X9_48 (by decide) (by decide) (cel_1 _ _ _) rfl ?_
    refine es_l (pc' := 28) (ls' := [(0, .ref (w.2.1 + 1)), (1, .int x1)]) (st' := [.int ((S.1 1 7) + 1), .ref (w.2.1 + 1)]) (fun _ _ k => e_iconst (v := 1) dX9_take_26 (by decide) (e_iadd dX9_take_27 k)) ?_
    refine es_put xc_9 dX9_take_28 fl_X9_48 (by decide) (by decide) (by decide) (cel_1 _ _ _) rfl rfl rfl rfl ?_
    exact es_return dX9_take_31 rfl hf
  · rw [if_neg c4] at hf
    exact es_throw (names := ["java/lang/RuntimeException", "java/lang/Exception"]) (by decide +kernel) (by decide +kernel) th_k_X9_61 th_i_IllegalArgumentException th_a_X9_61 th_g_X9_61 dX9_take_13 dX9_take_16 dX9_take_17 dX9_take_20 (by decide) (by decide) (by decide) hf
def f_X7_leave (N : Nat) (x1 : Int32) (S : xS) : Option xr :=
  xcV (f_X9_take N x1 S) (fun S3 =>
  some (.inl none, sI S3 405 5 ((S3.1 405 5) - 1))
  )
set_option maxRecDepth 100000 in
set_option maxHeartbeats 4000000 in
theorem t_X7_leave {l : Launch} {w : xW} {g : Nat → xE} (N : Nat) (x1 : Int32) (S : xS) (r : xr) (hf : f_X7_leave N x1 S = some r) : ES l w g M_X7_leave 0 (lv_args 0 [.ref (w.2.1 + 405), .int x1]) [] S r := by
  show ES l w g M_X7_leave 0 [(0, .ref (w.2.1 + 405)), (1, .int x1)] [] S r
  unfold f_X7_leave at hf
  refine es_l (pc' := 1) (ls' := [(0, .ref (w.2.1 + 405)), (1, .int x1)]) (st' := [.ref (w.2.1 + 405)]) (fun _ _ k => e_aload_n dX7_leave_0 0 rfl k) ?_
  refine es_get (v := .ref (w.2.1 + 1)) xc_7 dX7_leave_1 fl_X7_15 (by decide) (by decide) (cel_405 _ _ _) rfl ?_
  refine es_l (pc' := 5) (ls' := [(0, .ref (w.2.1 + 405)), (1, .int x1)]) (st' := [.int x1, .ref (w.2.1 + 1)]) (fun _ _ k => e_iload_n dX7_leave_4 1 rfl k) ?_
  refine es_callVV (as := [.int x1]) (rest := []) hf xc_9 dX7_leave_5 cs_X7_leave_X9_take ml_X7_46 im_X9_take se_X9_take rfl rfl (Nat.le_of_ble_eq_true rfl) (Nat.le_of_ble_eq_true rfl) (by decide) rfl (cel_1 _ _ _) (fun _ e => t_X9_take N x1 S _ e) (by decide) (fun S3 hf => ?_)
  refine es_l (pc' := 10) (ls' := [(0, .ref (w.2.1 + 405)), (1, .int x1)]) (st' := [.ref (w.2.1 + 405), .ref (w.2.1 + 405)]) (fun _ _ k => e_aload_n dX7_leave_8 0 rfl (e_dup dX7_leave_9 rfl k)) ?_
  refine es_get (v := .int (S3.1 405 5)) xc_7 dX7_leave_10 fl_X7_31 (by decide) (by decide) (cel_405 _ _ _) rfl ?_
  refine es_l (pc' := 15) (ls' := [(0, .ref (w.2.1 + 405)), (1, .int x1)]) (st' := [.int ((S3.1 405 5) - 1), .ref (w.2.1 + 405)]) (fun _ _ k => e_iconst (v := 1) dX7_leave_13 (by decide) (e_isub dX7_leave_14 k)) ?_
  refine es_put xc_7 dX7_leave_15 fl_X7_31 (by decide) (by decide) (by decide) (cel_405 _ _ _) rfl rfl rfl rfl ?_
  exact es_return dX7_leave_18 rfl hf
def f_X1_close_74 (N : Nat)   (S : xS) : Option xr :=
  xcV (f_X7_leave N 30 S) (fun S19 =>
  some (.inl (some (.inl 0)), S19)
  )
set_option maxRecDepth 100000 in
set_option maxHeartbeats 4000000 in
theorem t_X1_close_74 {l : Launch} {w : xW} {g : Nat → xE} (N : Nat)    (S : xS) (r : xr) (hf : f_X1_close_74 N   S = some r) : ES l w g M_X1_close 74 [(0, .ref (w.2.1 + 407))] [] S r := by
  unfold f_X1_close_74 at hf
  refine es_l (pc' := 75) (ls' := [(0, .ref (w.2.1 + 407))]) (st' := [.ref (w.2.1 + 407)]) (fun _ _ k => e_aload_n dX1_close_74 0 rfl k) ?_
  refine es_get (v := .ref (w.2.1 + 405)) xc_1 dX1_close_75 fl_X1_27 (by decide) (by decide) (cel_407 _ _ _) rfl ?_
  refine es_l (pc' := 80) (ls' := [(0, .ref (w.2.1 + 407))]) (st' := [.int 30, .ref (w.2.1 + 405)]) (fun _ _ k => e_bipush (v := 30) dX1_close_78 (by decide) k) ?_
  refine es_callVV (as := [.int 30]) (rest := []) hf xc_7 dX1_close_80 cs_X1_close_X7_leave ml_X1_114 im_X7_leave se_X7_leave rfl rfl (Nat.le_of_ble_eq_true rfl) (Nat.le_of_ble_eq_true rfl) (by decide) rfl (cel_405 _ _ _) (fun _ e => t_X7_leave N 30 S _ e) (by decide) (fun S19 hf => ?_)
  refine es_l (pc' := 84) (ls' := [(0, .ref (w.2.1 + 407))]) (st' := [.int 0]) (fun _ _ k => e_iconst (v := 0) dX1_close_83 (by decide) k) ?_
  exact es_ireturn (ty := .boolean) dX1_close_84 rfl rfl hf
def f_X1_close (N : Nat)  (S : xS) : Option xr :=
  xcV (f_X1_release N 1 S) (fun S21 =>
  if xin ((S21.1 407 5) - 1) 151 then
  if (S21.1 408 (((S21.1 407 5) - 1).toNatClampNeg)) = 4 then
    xcR (f_X5_addPart N 0 (sI (sI S21 407 5 ((S21.1 407 5) - 1)) 407 6 ((S21.1 407 6) - 1))) (fun v26 S25 =>
    if xin (S25.1 407 8) 151 then
    f_X1_close_74 N (sI (sI S25 (103 + 2 * (S25.1 407 8).toNatClampNeg) 6 (S25.1 97 5)) 407 7 0)
    else none
    )
  else
    f_X1_close_74 N (sI (sI S21 407 5 ((S21.1 407 5) - 1)) 407 6 ((S21.1 407 6) - 1))
  else none
  )
set_option maxRecDepth 100000 in
set_option maxHeartbeats 4000000 in
theorem t_X1_close {l : Launch} {w : xW} {g : Nat → xE} (N : Nat)  (S : xS) (r : xr) (hf : f_X1_close N  S = some r) : ES l w g M_X1_close 0 (lv_args 0 [.ref (w.2.1 + 407)]) [] S r := by
  show ES l w g M_X1_close 0 [(0, .ref (w.2.1 + 407))] [] S r
  unfold f_X1_close at hf
  refine es_l (pc' := 2) (ls' := [(0, .ref (w.2.1 + 407))]) (st' := [.int 1, .ref (w.2.1 + 407)]) (fun _ _ k => e_aload_n dX1_close_0 0 rfl (e_iconst (v := 1) dX1_close_1 (by decide) k)) ?_
  refine es_callVV (as := [.int 1]) (rest := []) hf xc_1 dX1_close_2 cs_X1_close_X1_release ml_X1_97 im_X1_release se_X1_release rfl rfl (Nat.le_of_ble_eq_true rfl) (Nat.le_of_ble_eq_true rfl) (by decide) rfl (cel_407 _ _ _) (fun _ e => t_X1_release N 1 S _ e) (by decide) (fun S21 hf => ?_)
  refine es_l (pc' := 7) (ls' := [(0, .ref (w.2.1 + 407))]) (st' := [.ref (w.2.1 + 407), .ref (w.2.1 + 407)]) (fun _ _ k => e_aload_n dX1_close_5 0 rfl (e_dup dX1_close_6 rfl k)) ?_
  refine es_get (v := .int (S21.1 407 5)) xc_1 dX1_close_7 fl_X1_35 (by decide) (by decide) (cel_407 _ _ _) rfl ?_
  refine es_l (pc' := 12) (ls' := [(0, .ref (w.2.1 + 407))]) (st' := [.int ((S21.1 407 5) - 1), .ref (w.2.1 + 407)]) (fun _ _ k => e_iconst (v := 1) dX1_close_10 (by decide) (e_isub dX1_close_11 k)) ?_
  refine es_put xc_1 dX1_close_12 fl_X1_35 (by decide) (by decide) (by decide) (cel_407 _ _ _) rfl rfl rfl rfl ?_
  refine es_l (pc' := 17) (ls' := [(0, .ref (w.2.1 + 407))]) (st' := [.ref (w.2.1 + 407), .ref (w.2.1 + 407)]) (fun _ _ k => e_aload_n dX1_close_15 0 rfl (e_dup dX1_close_16 rfl k)) ?_
  refine es_get (v := .int (S21.1 407 6)) xc_1 dX1_close_17 fl_X1_38 (by decide) (by decide) (cel_407 _ _ _) rfl ?_
  refine es_l (pc' := 22) (ls' := [(0, .ref (w.2.1 + 407))]) (st' := [.int ((S21.1 407 6) - 1), .ref (w.2.1 + 407)]) (fun _ _ k => e_iconst (v := 1) dX1_close_20 (by decide) (e_isub dX1_close_21 k)) ?_
  refine es_put xc_1 dX1_close_22 fl_X1_38 (by decide) (by decide) (by decide) (cel_407 _ _ _) rfl rfl rfl rfl ?_
  refine es_l (pc' := 26) (ls' := [(0, .ref (w.2.1 + 407))]) (st' := [.ref (w.2.1 + 407)]) (fun _ _ k => e_aload_n dX1_close_25 0 rfl k) ?_
  refine es_get (v := .ref (w.2.1 + 408)) xc_1 dX1_close_26 fl_X1_9 (by decide) (by decide) (cel_407 _ _ _) rfl ?_
  refine es_l (pc' := 30) (ls' := [(0, .ref (w.2.1 + 407))]) (st' := [.ref (w.2.1 + 407), .ref (w.2.1 + 408)]) (fun _ _ k => e_aload_n dX1_close_29 0 rfl k) ?_
  refine es_get (v := .int ((S21.1 407 5) - 1)) xc_1 dX1_close_30 fl_X1_35 (by decide) (by decide) (cel_407 _ _ _) rfl ?_
  obtain ⟨g23, hf⟩ := xg hf
  refine es_iald (v := .int (S21.1 408 (((S21.1 407 5) - 1).toNatClampNeg))) dX1_close_33 (by decide) (cel_408 _ _ _) g23 rfl ?_
  refine es_l (pc' := 35) (ls' := [(0, .ref (w.2.1 + 407))]) (st' := [.int 4, .int (S21.1 408 (((S21.1 407 5) - 1).toNatClampNeg))]) (fun _ _ k => e_iconst (v := 4) dX1_close_34 (by decide) k) ?_
  refine es_br (c := (S21.1 408 (((S21.1 407 5) - 1).toNatClampNeg)) = 4) (tgt := 38) (pf := 74) (st' := []) (fun _ _ a b => e_icmp_ne dX1_close_35 rfl b a) (fun c24 => ?_) (fun c24 => ?_)
  · rw [if_pos c24] at hf
    refine es_l (pc' := 39) (ls' := [(0, .ref (w.2.1 + 407))]) (st' := [.ref (w.2.1 + 407)]) (fun _ _ k => e_aload_n dX1_close_38 0 rfl k) ?_
    refine es_get (v := .ref (w.2.1 + 97)) xc_1 dX1_close_39 fl_X1_23 (by decide) (by decide) (cel_407 _ _ _) rfl ?_
    refine es_l (pc' := 43) (ls' := [(0, .ref (w.2.1 + 407))]) (st' := [.int 0, .ref (w.2.1 + 97)]) (fun _ _ k => e_iconst (v := 0) dX1_close_42 (by decide) k) ?_
    refine es_callVR (as := [.int 0]) (rest := []) hf xc_5 dX1_close_43 cs_X1_close_X5_addPart ml_X1_62 im_X5_addPart se_X5_addPart rfl rfl (Nat.le_of_ble_eq_true rfl) (Nat.le_of_ble_eq_true rfl) (by decide) rfl (cel_97 _ _ _) (fun _ e => t_X5_addPart N 0 (sI (sI S21 407 5 ((S21.1 407 5) - 1)) 407 6 ((S21.1 407 6) - 1)) _ e) (by decide) (fun v26 S25 hf => ?_)
    refine es_l (pc' := 48) (ls' := [(0, .ref (w.2.1 + 407))]) (st' := [.ref (w.2.1 + 407)]) (fun _ _ k => e_pop dX1_close_46 rfl (e_aload_n dX1_close_47 0 rfl k)) ?_
    refine es_get (v := .ref (w.2.1 + 97)) xc_1 dX1_close_48 fl_X1_23 (by decide) (by decide) (cel_407 _ _ _) rfl ?_
    refine es_get (v := .ref (w.2.1 + 99)) xc_5 dX1_close_51 fl_X1_104 (by decide) (by decide) (cel_97 _ _ _) rfl ?_
    refine es_l (pc' := 55) (ls' := [(0, .ref (w.2.1 + 407))]) (st' := [.ref (w.2.1 + 407), .ref (w.2.1 + 99)]) (fun _ _ k => e_aload_n dX1_close_54 0 rfl k) ?_
    refine es_get (v := .int (S25.1 407 8)) xc_1 dX1_close_55 fl_X1_108 (by decide) (by decide) (cel_407 _ _ _) rfl ?_
    obtain ⟨g27, hf⟩ := xg hf
    refine es_aald (v := .ref (w.2.1 + (103 + 2 * (S25.1 407 8).toNatClampNeg))) rfl dX1_close_58 (by decide) (cel_99 _ _ _) g27 rfl ?_
    refine es_l (pc' := 60) (ls' := [(0, .ref (w.2.1 + 407))]) (st' := [.ref (w.2.1 + 407), .ref (w.2.1 + (103 + 2 * (S25.1 407 8).toNatClampNeg))]) (fun _ _ k => e_aload_n dX1_close_59 0 rfl k) ?_
    refine es_get (v := .ref (w.2.1 + 97)) xc_1 dX1_close_60 fl_X1_23 (by decide) (by decide) (cel_407 _ _ _) rfl ?_
    refine es_get (v := .int (S25.1 97 5)) xc_5 dX1_close_63 fl_X1_41 (by decide) (by decide) (cel_97 _ _ _) rfl ?_
    refine es_put xc_4 dX1_close_66 fl_X1_111 (by decide) (by decide) (xPart_lt (xPart_at g27)) (cel_pa (xPart_at g27) _ _ _) rfl rfl rfl (by rw [cel_pa (xPart_at g27)]; rfl) ?_
    refine es_l (pc' := 71) (ls' := [(0, .ref (w.2.1 + 407))]) (st' := [.int 0, .ref (w.2.1 + 407)]) (fun _ _ k => e_aload_n dX1_close_69 0 rfl (e_iconst (v := 0) dX1_close_70 (by decide) k)) ?_
    refine es_put xc_1 dX1_close_71 fl_X1_31 (by decide) (by decide) (by decide) (cel_407 _ _ _) rfl rfl rfl rfl ?_
    exact t_X1_close_74 N (sI (sI S25 (103 + 2 * (S25.1 407 8).toNatClampNeg) 6 (S25.1 97 5)) 407 7 0) r hf
  · rw [if_neg c24] at hf
    exact t_X1_close_74 N (sI (sI S21 407 5 ((S21.1 407 5) - 1)) 407 6 ((S21.1 407 6) - 1)) r hf
def f_X1_push (N : Nat) (x1 : Int32) (S : xS) : Option xr :=
  if xin (S.1 407 5) 151 then
  some (.inl none, sI (sI S 408 ((S.1 407 5).toNatClampNeg) x1) 407 5 ((S.1 407 5) + 1))
  else none
set_option maxRecDepth 100000 in
set_option maxHeartbeats 4000000 in
theorem t_X1_push {l : Launch} {w : xW} {g : Nat → xE} (N : Nat) (x1 : Int32) (S : xS) (r : xr) (hf : f_X1_push N x1 S = some r) : ES l w g M_X1_push 0 (lv_args 0 [.ref (w.2.1 + 407), .int x1]) [] S r := by
  show ES l w g M_X1_push 0 [(0, .ref (w.2.1 + 407)), (1, .int x1)] [] S r
  unfold f_X1_push at hf
  refine es_l (pc' := 1) (ls' := [(0, .ref (w.2.1 + 407)), (1, .int x1)]) (st' := [.ref (w.2.1 + 407)]) (fun _ _ k => e_aload_n dX1_push_0 0 rfl k) ?_
  refine es_get (v := .ref (w.2.1 + 408)) xc_1 dX1_push_1 fl_X1_9 (by decide) (by decide) (cel_407 _ _ _) rfl ?_
  refine es_l (pc' := 5) (ls' := [(0, .ref (w.2.1 + 407)), (1, .int x1)]) (st' := [.ref (w.2.1 + 407), .ref (w.2.1 + 408)]) (fun _ _ k => e_aload_n dX1_push_4 0 rfl k) ?_
  refine es_get (v := .int (S.1 407 5)) xc_1 dX1_push_5 fl_X1_35 (by decide) (by decide) (cel_407 _ _ _) rfl ?_
  refine es_l (pc' := 9) (ls' := [(0, .ref (w.2.1 + 407)), (1, .int x1)]) (st' := [.int x1, .int (S.1 407 5), .ref (w.2.1 + 408)]) (fun _ _ k => e_iload_n dX1_push_8 1 rfl k) ?_
  obtain ⟨g2, hf⟩ := xg hf
  refine es_iast dX1_push_9 (by decide) (cel_408 _) g2 ?_
  refine es_l (pc' := 12) (ls' := [(0, .ref (w.2.1 + 407)), (1, .int x1)]) (st' := [.ref (w.2.1 + 407), .ref (w.2.1 + 407)]) (fun _ _ k => e_aload_n dX1_push_10 0 rfl (e_dup dX1_push_11 rfl k)) ?_
  refine es_get (v := .int (S.1 407 5)) xc_1 dX1_push_12 fl_X1_35 (by decide) (by decide) (cel_407 _ _ _) rfl ?_
  refine es_l (pc' := 17) (ls' := [(0, .ref (w.2.1 + 407)), (1, .int x1)]) (st' := [.int ((S.1 407 5) + 1), .ref (w.2.1 + 407)]) (fun _ _ k => e_iconst (v := 1) dX1_push_15 (by decide) (e_iadd dX1_push_16 k)) ?_
  refine es_put xc_1 dX1_push_17 fl_X1_35 (by decide) (by decide) (by decide) (cel_407 _ _ _) rfl rfl rfl rfl ?_
  exact es_return dX1_push_20 rfl hf
def f_X9_pass_21 (N : Nat)   (S : xS) : Option xr :=
  some (.inl none, S)
set_option maxRecDepth 100000 in
set_option maxHeartbeats 4000000 in
theorem t_X9_pass_21 {l : Launch} {w : xW} {g : Nat → xE} (N : Nat)    (S : xS) (r : xr) (hf : f_X9_pass_21 N   S = some r) : ES l w g M_X9_pass 21 [] [] S r := by
  unfold f_X9_pass_21 at hf
  exact es_return dX9_pass_21 rfl hf
def f_X9_pass (N : Nat)  (S : xS) : Option xr :=
  if (S.1 1 6) ≤ (S.1 1 7) then
    f_X9_pass_21 N S
  else
    f_X9_pass_21 N (sI S 1 7 ((S.1 1 7) + 1))
set_option maxRecDepth 100000 in
set_option maxHeartbeats 4000000 in
theorem t_X9_pass {l : Launch} {w : xW} {g : Nat → xE} (N : Nat)  (S : xS) (r : xr) (hf : f_X9_pass N  S = some r) : ES l w g M_X9_pass 0 (lv_args 0 [.ref (w.2.1 + 1)]) [] S r := by
  show ES l w g M_X9_pass 0 [(0, .ref (w.2.1 + 1))] [] S r
  unfold f_X9_pass at hf
  refine es_l (pc' := 1) (ls' := [(0, .ref (w.2.1 + 1))]) (st' := [.ref (w.2.1 + 1)]) (fun _ _ k => e_aload_n dX9_pass_0 0 rfl k) ?_
  refine es_get (v := .int (S.1 1 7)) xc_9 dX9_pass_1 fl_X9_48 (by decide) (by decide) (cel_1 _ _ _) rfl ?_
  refine es_l (pc' := 5) (ls' := [(0, .ref (w.2.1 + 1))]) (st' := [.ref (w.2.1 + 1), .int (S.1 1 7)]) (fun _ _ k => e_aload_n dX9_pass_4 0 rfl k) ?_
  refine es_get (v := .int (S.1 1 6)) xc_9 dX9_pass_5 fl_X9_55 (by decide) (by decide) (cel_1 _ _ _) rfl ?_
  refine es_br (c := (S.1 1 6) ≤ (S.1 1 7)) (tgt := 21) (pf := 11) (st' := []) (fun _ _ a b => e_icmp_ge dX9_pass_8 rfl a b) (fun c3 => ?_) (fun c3 => ?_)
  · rw [if_pos c3] at hf
    refine es_sub [] rfl ?_
    exact t_X9_pass_21 N S r hf
  · rw [if_neg c3] at hf
    refine es_l (pc' := 13) (ls' := [(0, .ref (w.2.1 + 1))]) (st' := [.ref (w.2.1 + 1), .ref (w.2.1 + 1)]) (fun _ _ k => e_aload_n dX9_pass_11 0 rfl (e_dup dX9_pass_12 rfl k)) ?_
    refine es_get (v := .int (S.1 1 7)) xc_9 dX9_pass_13 fl_X9_48 (by decide) (by decide) (cel_1 _ _ _) rfl ?_
    refine es_l (pc' := 18) (ls' := [(0, .ref (w.2.1 + 1))]) (st' := [.int ((S.1 1 7) + 1), .ref (w.2.1 + 1)]) (fun _ _ k => e_iconst (v := 1) dX9_pass_16 (by decide) (e_iadd dX9_pass_17 k)) ?_
    refine es_put xc_9 dX9_pass_18 fl_X9_48 (by decide) (by decide) (by decide) (cel_1 _ _ _) rfl rfl rfl rfl ?_
    refine es_sub [] rfl ?_
    exact t_X9_pass_21 N (sI S 1 7 ((S.1 1 7) + 1)) r hf
def f_X1_join_67 (N : Nat)  (x1 : Int32) (S : xS) : Option xr :=
  xcV (f_X1_push N x1 S) (fun S35 =>
  xcV (f_X9_pass N S35) (fun S37 =>
  some (.inl (some (.inl 1)), S37)
  )
  )
set_option maxRecDepth 100000 in
set_option maxHeartbeats 4000000 in
theorem t_X1_join_67 {l : Launch} {w : xW} {g : Nat → xE} (N : Nat)   (x1 : Int32) (S : xS) (r : xr) (hf : f_X1_join_67 N  x1 S = some r) : ES l w g M_X1_join 67 [(0, .ref (w.2.1 + 407)), (1, .int x1)] [] S r := by
  unfold f_X1_join_67 at hf
  refine es_l (pc' := 69) (ls' := [(0, .ref (w.2.1 + 407)), (1, .int x1)]) (st' := [.int x1, .ref (w.2.1 + 407)]) (fun _ _ k => e_aload_n dX1_join_67 0 rfl (e_iload_n dX1_join_68 1 rfl k)) ?_
  refine es_callVV (as := [.int x1]) (rest := []) hf xc_1 dX1_join_69 cs_X1_join_X1_push ml_X1_85 im_X1_push se_X1_push rfl rfl (Nat.le_of_ble_eq_true rfl) (Nat.le_of_ble_eq_true rfl) (by decide) rfl (cel_407 _ _ _) (fun _ e => t_X1_push N x1 S _ e) (by decide) (fun S35 hf => ?_)
  refine es_l (pc' := 73) (ls' := [(0, .ref (w.2.1 + 407)), (1, .int x1)]) (st' := [.ref (w.2.1 + 407)]) (fun _ _ k => e_aload_n dX1_join_72 0 rfl k) ?_
  refine es_get (v := .ref (w.2.1 + 1)) xc_1 dX1_join_73 fl_X1_15 (by decide) (by decide) (cel_407 _ _ _) rfl ?_
  refine es_callVV (as := []) (rest := []) hf xc_9 dX1_join_76 cs_X1_join_X9_pass ml_X1_73 im_X9_pass se_X9_pass rfl rfl (Nat.le_of_ble_eq_true rfl) (Nat.le_of_ble_eq_true rfl) (by decide) rfl (cel_1 _ _ _) (fun _ e => t_X9_pass N  S35 _ e) (by decide) (fun S37 hf => ?_)
  refine es_l (pc' := 80) (ls' := [(0, .ref (w.2.1 + 407)), (1, .int x1)]) (st' := [.int 1]) (fun _ _ k => e_iconst (v := 1) dX1_join_79 (by decide) k) ?_
  exact es_ireturn (ty := .boolean) dX1_join_80 rfl rfl hf
def f_X1_join_26 (N : Nat)  (x1 : Int32) (x2 : Int32) (s0 : Int32) (S : xS) : Option xr :=
  xcV (f_X1_release N s0 S) (fun S39 =>
  if x2 = 4 then
    if (S39.1 407 5) ≤ 0 then
      f_X1_join_67 N x1 S39
    else
      if xin ((S39.1 407 5) - 1) 151 then
      xcI (f_X1_rank N (S39.1 408 (((S39.1 407 5) - 1).toNatClampNeg)) S39) (fun v45 S44 =>
      if v45 = 4 then
        some (.inr "java/lang/IllegalArgumentException", sE S44)
      else
        f_X1_join_67 N x1 S44
      )
      else none
  else
    f_X1_join_67 N x1 S39
  )
set_option maxRecDepth 100000 in
set_option maxHeartbeats 4000000 in
theorem t_X1_join_26 {l : Launch} {w : xW} {g : Nat → xE} (N : Nat)   (x1 : Int32) (x2 : Int32) (s0 : Int32) (S : xS) (r : xr) (hf : f_X1_join_26 N  x1 x2 s0 S = some r) : ES l w g M_X1_join 26 [(0, .ref (w.2.1 + 407)), (1, .int x1), (2, .int x2)] [.int s0, .ref (w.2.1 + 407)] S r := by
  unfold f_X1_join_26 at hf
  refine es_callVV (as := [.int s0]) (rest := []) hf xc_1 dX1_join_26 cs_X1_join_X1_release ml_X1_97 im_X1_release se_X1_release rfl rfl (Nat.le_of_ble_eq_true rfl) (Nat.le_of_ble_eq_true rfl) (by decide) rfl (cel_407 _ _ _) (fun _ e => t_X1_release N s0 S _ e) (by decide) (fun S39 hf => ?_)
  refine es_l (pc' := 31) (ls' := [(0, .ref (w.2.1 + 407)), (1, .int x1), (2, .int x2)]) (st' := [.int 4, .int x2]) (fun _ _ k => e_iload_n dX1_join_29 2 rfl (e_iconst (v := 4) dX1_join_30 (by decide) k)) ?_
  refine es_br (c := x2 = 4) (tgt := 34) (pf := 67) (st' := []) (fun _ _ a b => e_icmp_ne dX1_join_31 rfl b a) (fun c41 => ?_) (fun c41 => ?_)
  · rw [if_pos c41] at hf
    refine es_l (pc' := 35) (ls' := [(0, .ref (w.2.1 + 407)), (1, .int x1), (2, .int x2)]) (st' := [.ref (w.2.1 + 407)]) (fun _ _ k => e_aload_n dX1_join_34 0 rfl k) ?_
    refine es_get (v := .int (S39.1 407 5)) xc_1 dX1_join_35 fl_X1_35 (by decide) (by decide) (cel_407 _ _ _) rfl ?_
    refine es_br (c := (S39.1 407 5) ≤ 0) (tgt := 67) (pf := 41) (st' := []) (fun _ _ a b => e_if_le dX1_join_38 rfl a b) (fun c42 => ?_) (fun c42 => ?_)
    · rw [if_pos c42] at hf
      refine es_sub [0, 1] rfl ?_
      exact t_X1_join_67 N x1 S39 r hf
    · rw [if_neg c42] at hf
      refine es_l (pc' := 42) (ls' := [(0, .ref (w.2.1 + 407)), (1, .int x1), (2, .int x2)]) (st' := [.ref (w.2.1 + 407)]) (fun _ _ k => e_aload_n dX1_join_41 0 rfl k) ?_
      refine es_get (v := .ref (w.2.1 + 408)) xc_1 dX1_join_42 fl_X1_9 (by decide) (by decide) (cel_407 _ _ _) rfl ?_
      refine es_l (pc' := 46) (ls' := [(0, .ref (w.2.1 + 407)), (1, .int x1), (2, .int x2)]) (st' := [.ref (w.2.1 + 407), .ref (w.2.1 + 408)]) (fun _ _ k => e_aload_n dX1_join_45 0 rfl k) ?_
      refine es_get (v := .int (S39.1 407 5)) xc_1 dX1_join_46 fl_X1_35 (by decide) (by decide) (cel_407 _ _ _) rfl ?_
      refine es_l (pc' := 51) (ls' := [(0, .ref (w.2.1 + 407)), (1, .int x1), (2, .int x2)]) (st' := [.int ((S39.1 407 5) - 1), .ref (w.2.1 + 408)]) (fun _ _ k => e_iconst (v := 1) dX1_join_49 (by decide) (e_isub dX1_join_50 k)) ?_
      obtain ⟨g43, hf⟩ := xg hf
      refine es_iald (v := .int (S39.1 408 (((S39.1 407 5) - 1).toNatClampNeg))) dX1_join_51 (by decide) (cel_408 _ _ _) g43 rfl ?_
      refine es_callSI (as := [.int (S39.1 408 (((S39.1 407 5) - 1).toNatClampNeg))]) (rest := []) hf dX1_join_52 cs_X1_join_X1_rank ml_X1_100 st_X1_rank rfl rfl (Nat.le_of_ble_eq_true rfl) (Nat.le_of_ble_eq_true rfl) (fun _ e => t_X1_rank N (S39.1 408 (((S39.1 407 5) - 1).toNatClampNeg)) S39 _ e) (by decide) (fun v45 S44 hf => ?_)
      refine es_l (pc' := 56) (ls' := [(0, .ref (w.2.1 + 407)), (1, .int x1), (2, .int x2)]) (st' := [.int 4, .int v45]) (fun _ _ k => e_iconst (v := 4) dX1_join_55 (by decide) k) ?_
      refine es_br (c := v45 = 4) (tgt := 59) (pf := 67) (st' := []) (fun _ _ a b => e_icmp_ne dX1_join_56 rfl b a) (fun c46 => ?_) (fun c46 => ?_)
      · rw [if_pos c46] at hf
        exact es_throw (names := ["java/lang/RuntimeException", "java/lang/Exception"]) (by decide +kernel) (by decide +kernel) th_k_X1_94 th_i_IllegalArgumentException th_a_X1_94 th_g_X1_94 dX1_join_59 dX1_join_62 dX1_join_63 dX1_join_66 (by decide) (by decide) (by decide) hf
      · rw [if_neg c46] at hf
        refine es_sub [0, 1] rfl ?_
        exact t_X1_join_67 N x1 S44 r hf
  · rw [if_neg c41] at hf
    refine es_sub [0, 1] rfl ?_
    exact t_X1_join_67 N x1 S39 r hf
def f_X1_join (N : Nat)  (S : xS) : Option xr :=
  xcI (f_X9_sort N S) (fun v48 S47 =>
  xcI (f_X1_rank N v48 S47) (fun v50 S49 =>
  if v50 = 4 then
    f_X1_join_26 N v48 v50 (v50 + 1) S49
  else
    f_X1_join_26 N v48 v50 v50 S49
  )
  )
set_option maxRecDepth 100000 in
set_option maxHeartbeats 4000000 in
theorem t_X1_join {l : Launch} {w : xW} {g : Nat → xE} (N : Nat)  (S : xS) (r : xr) (hf : f_X1_join N  S = some r) : ES l w g M_X1_join 0 (lv_args 0 [.ref (w.2.1 + 407)]) [] S r := by
  show ES l w g M_X1_join 0 [(0, .ref (w.2.1 + 407))] [] S r
  unfold f_X1_join at hf
  refine es_l (pc' := 1) (ls' := [(0, .ref (w.2.1 + 407))]) (st' := [.ref (w.2.1 + 407)]) (fun _ _ k => e_aload_n dX1_join_0 0 rfl k) ?_
  refine es_get (v := .ref (w.2.1 + 1)) xc_1 dX1_join_1 fl_X1_15 (by decide) (by decide) (cel_407 _ _ _) rfl ?_
  refine es_callVI (as := []) (rest := []) hf xc_9 dX1_join_4 cs_X1_join_X9_sort ml_X1_50 im_X9_sort se_X9_sort rfl rfl (Nat.le_of_ble_eq_true rfl) (Nat.le_of_ble_eq_true rfl) (by decide) rfl (cel_1 _ _ _) (fun _ e => t_X9_sort N  S _ e) (by decide) (fun v48 S47 hf => ?_)
  refine es_l (pc' := 9) (ls' := [(1, .int v48), (0, .ref (w.2.1 + 407))]) (st' := [.int v48]) (fun _ _ k => e_istore_n (ls' := [(1, .int v48), (0, .ref (w.2.1 + 407))]) dX1_join_7 (by decide) rfl (e_iload_n dX1_join_8 0 rfl k)) ?_
  refine es_callSI (as := [.int v48]) (rest := []) hf dX1_join_9 cs_X1_join_X1_rank ml_X1_100 st_X1_rank rfl rfl (Nat.le_of_ble_eq_true rfl) (Nat.le_of_ble_eq_true rfl) (fun _ e => t_X1_rank N v48 S47 _ e) (by decide) (fun v50 S49 hf => ?_)
  refine es_l (pc' := 16) (ls' := [(2, .int v50), (1, .int v48), (0, .ref (w.2.1 + 407))]) (st' := [.int 4, .int v50, .ref (w.2.1 + 407)]) (fun _ _ k => e_istore_n (ls' := [(2, .int v50), (1, .int v48), (0, .ref (w.2.1 + 407))]) dX1_join_12 (by decide) rfl (e_aload_n dX1_join_13 2 rfl (e_iload_n dX1_join_14 0 rfl (e_iconst (v := 4) dX1_join_15 (by decide) k)))) ?_
  refine es_br (c := v50 = 4) (tgt := 19) (pf := 25) (st' := [.ref (w.2.1 + 407)]) (fun _ _ a b => e_icmp_ne dX1_join_16 rfl b a) (fun c51 => ?_) (fun c51 => ?_)
  · rw [if_pos c51] at hf
    refine es_l (pc' := 26) (ls' := [(2, .int v50), (1, .int v48), (0, .ref (w.2.1 + 407))]) (st' := [.int (v50 + 1), .ref (w.2.1 + 407)]) (fun _ _ k => e_iload_n dX1_join_19 0 rfl (e_iconst (v := 1) dX1_join_20 (by decide) (e_iadd dX1_join_21 (e_goto (tgt := 26) dX1_join_22 rfl k)))) ?_
    refine es_sub [2, 1, 0] rfl ?_
    exact t_X1_join_26 N v48 v50 (v50 + 1) S49 r hf
  · rw [if_neg c51] at hf
    refine es_l (pc' := 26) (ls' := [(2, .int v50), (1, .int v48), (0, .ref (w.2.1 + 407))]) (st' := [.int v50, .ref (w.2.1 + 407)]) (fun _ _ k => e_iload_n dX1_join_25 0 rfl k) ?_
    refine es_sub [2, 1, 0] rfl ?_
    exact t_X1_join_26 N v48 v50 v50 S49 r hf
def f_X9_number_28 (N : Nat)  (s0 : Int32) (S : xS) : Option xr :=
  some (.inl (some (.inl s0)), S)
set_option maxRecDepth 100000 in
set_option maxHeartbeats 4000000 in
theorem t_X9_number_28 {l : Launch} {w : xW} {g : Nat → xE} (N : Nat)   (s0 : Int32) (S : xS) (r : xr) (hf : f_X9_number_28 N  s0 S = some r) : ES l w g M_X9_number 28 [] [.int s0] S r := by
  unfold f_X9_number_28 at hf
  exact es_ireturn (ty := .int) dX9_number_28 rfl rfl hf
def f_X9_number (N : Nat)  (S : xS) : Option xr :=
  if xin (S.1 1 7) 151 then
  if (S.1 4 ((S.1 1 7).toNatClampNeg)) = 41 then
    f_X9_number_28 N ((S.2.1 6 ((S.1 1 7).toNatClampNeg) : Int64).toInt32) S
  else
    f_X9_number_28 N ((-1)) S
  else none
set_option maxRecDepth 100000 in
set_option maxHeartbeats 4000000 in
theorem t_X9_number {l : Launch} {w : xW} {g : Nat → xE} (N : Nat)  (S : xS) (r : xr) (hf : f_X9_number N  S = some r) : ES l w g M_X9_number 0 (lv_args 0 [.ref (w.2.1 + 1)]) [] S r := by
  show ES l w g M_X9_number 0 [(0, .ref (w.2.1 + 1))] [] S r
  unfold f_X9_number at hf
  refine es_l (pc' := 1) (ls' := [(0, .ref (w.2.1 + 1))]) (st' := [.ref (w.2.1 + 1)]) (fun _ _ k => e_aload_n dX9_number_0 0 rfl k) ?_
  refine es_get (v := .ref (w.2.1 + 4)) xc_9 dX9_number_1 fl_X9_19 (by decide) (by decide) (cel_1 _ _ _) rfl ?_
  refine es_l (pc' := 5) (ls' := [(0, .ref (w.2.1 + 1))]) (st' := [.ref (w.2.1 + 1), .ref (w.2.1 + 4)]) (fun _ _ k => e_aload_n dX9_number_4 0 rfl k) ?_
  refine es_get (v := .int (S.1 1 7)) xc_9 dX9_number_5 fl_X9_48 (by decide) (by decide) (cel_1 _ _ _) rfl ?_
  obtain ⟨g5, hf⟩ := xg hf
  refine es_iald (v := .int (S.1 4 ((S.1 1 7).toNatClampNeg))) dX9_number_8 (by decide) (cel_4 _ _ _) g5 rfl ?_
  refine es_l (pc' := 11) (ls' := [(0, .ref (w.2.1 + 1))]) (st' := [.int 41, .int (S.1 4 ((S.1 1 7).toNatClampNeg))]) (fun _ _ k => e_bipush (v := 41) dX9_number_9 (by decide) k) ?_
  refine es_br (c := (S.1 4 ((S.1 1 7).toNatClampNeg)) = 41) (tgt := 14) (pf := 27) (st' := []) (fun _ _ a b => e_icmp_ne dX9_number_11 rfl b a) (fun c6 => ?_) (fun c6 => ?_)
  · rw [if_pos c6] at hf
    refine es_l (pc' := 15) (ls' := [(0, .ref (w.2.1 + 1))]) (st' := [.ref (w.2.1 + 1)]) (fun _ _ k => e_aload_n dX9_number_14 0 rfl k) ?_
    refine es_get (v := .ref (w.2.1 + 6)) xc_9 dX9_number_15 fl_X9_26 (by decide) (by decide) (cel_1 _ _ _) rfl ?_
    refine es_l (pc' := 19) (ls' := [(0, .ref (w.2.1 + 1))]) (st' := [.ref (w.2.1 + 1), .ref (w.2.1 + 6)]) (fun _ _ k => e_aload_n dX9_number_18 0 rfl k) ?_
    refine es_get (v := .int (S.1 1 7)) xc_9 dX9_number_19 fl_X9_48 (by decide) (by decide) (cel_1 _ _ _) rfl ?_
    refine es_lald (v := .long (S.2.1 6 ((S.1 1 7).toNatClampNeg))) dX9_number_22 (by decide) (cel_6 _ _ _) g5 rfl ?_
    refine es_l (pc' := 28) (ls' := [(0, .ref (w.2.1 + 1))]) (st' := [.int ((S.2.1 6 ((S.1 1 7).toNatClampNeg) : Int64).toInt32)]) (fun _ _ k => e_l2i (v := (S.2.1 6 ((S.1 1 7).toNatClampNeg) : Int64).toInt32) dX9_number_23 rfl (e_goto (tgt := 28) dX9_number_24 rfl k)) ?_
    refine es_sub [] rfl ?_
    exact t_X9_number_28 N ((S.2.1 6 ((S.1 1 7).toNatClampNeg) : Int64).toInt32) S r hf
  · rw [if_neg c6] at hf
    refine es_l (pc' := 28) (ls' := [(0, .ref (w.2.1 + 1))]) (st' := [.int ((-1))]) (fun _ _ k => e_iconst (v := (-1)) dX9_number_27 (by decide) k) ?_
    refine es_sub [] rfl ?_
    exact t_X9_number_28 N ((-1)) S r hf
