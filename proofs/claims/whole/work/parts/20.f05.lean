def f_X2_goThrough_218 (N : Nat)   (S : xS) : Option xr :=
  some (.inl (some (.inl 0)), S)
set_option maxRecDepth 100000 in
set_option maxHeartbeats 4000000 in
theorem t_X2_goThrough_218 {l : Launch} {w : xW} {g : Nat → xE} (N : Nat)    (S : xS) (r : xr) (hf : f_X2_goThrough_218 N   S = some r) : ES l w g M_X2_goThrough 218 [] [] S r := by
  unfold f_X2_goThrough_218 at hf
  refine es_l (pc' := 219) (ls' := []) (st' := [.int 0]) (fun _ _ k => e_iconst (v := 0) dX2_goThrough_218 (by decide) k) ?_
  exact es_ireturn (ty := .int) dX2_goThrough_219 rfl rfl hf
def f_X2_goThrough_212 (N : Nat) (k14 : Int32 → Int32 → xS → Option xr) (x2 : Int32) (x3 : Int32) (S : xS) : Option xr :=
  k14 x2 (x3 + 1) S
set_option maxRecDepth 100000 in
set_option maxHeartbeats 4000000 in
theorem t_X2_goThrough_212 {l : Launch} {w : xW} {g : Nat → xE} (N : Nat) (k14 : Int32 → Int32 → xS → Option xr) (hk14 : ∀ (x2 : Int32) (x3 : Int32) (S : xS) (r : xr), k14 x2 x3 S = some r → ES l w g M_X2_goThrough 14 [(0, .ref (w.2.1 + 409)), (2, .int x2), (3, .int x3)] [] S r) (x2 : Int32) (x3 : Int32) (S : xS) (r : xr) (hf : f_X2_goThrough_212 N k14 x2 x3 S = some r) : ES l w g M_X2_goThrough 212 [(0, .ref (w.2.1 + 409)), (2, .int x2), (3, .int x3)] [] S r := by
  unfold f_X2_goThrough_212 at hf
  refine es_l (pc' := 14) (ls' := [(3, .int (x3 + 1)), (0, .ref (w.2.1 + 409)), (2, .int x2)]) (st' := []) (fun _ _ k => e_iinc (v := x3 + 1) (ls' := [(3, .int (x3 + 1)), (0, .ref (w.2.1 + 409)), (2, .int x2)]) dX2_goThrough_212 2 rfl rfl (by decide) rfl (e_goto (tgt := 14) dX2_goThrough_215 rfl k)) ?_
  refine es_sub [1, 2, 0] rfl ?_
  exact hk14 x2 (x3 + 1) S r hf
def f_X2_goThrough_193 (N : Nat) (k14 : Int32 → Int32 → xS → Option xr) (x3 : Int32) (s0 : Int32) (S : xS) : Option xr :=
  f_X2_goThrough_212 N k14 s0 x3 S
set_option maxRecDepth 100000 in
set_option maxHeartbeats 4000000 in
theorem t_X2_goThrough_193 {l : Launch} {w : xW} {g : Nat → xE} (N : Nat) (k14 : Int32 → Int32 → xS → Option xr) (hk14 : ∀ (x2 : Int32) (x3 : Int32) (S : xS) (r : xr), k14 x2 x3 S = some r → ES l w g M_X2_goThrough 14 [(0, .ref (w.2.1 + 409)), (2, .int x2), (3, .int x3)] [] S r) (x3 : Int32) (s0 : Int32) (S : xS) (r : xr) (hf : f_X2_goThrough_193 N k14 x3 s0 S = some r) : ES l w g M_X2_goThrough 193 [(0, .ref (w.2.1 + 409)), (3, .int x3)] [.int s0] S r := by
  unfold f_X2_goThrough_193 at hf
  refine es_l (pc' := 212) (ls' := [(2, .int s0), (0, .ref (w.2.1 + 409)), (3, .int x3)]) (st' := []) (fun _ _ k => e_istore_n (ls' := [(2, .int s0), (0, .ref (w.2.1 + 409)), (3, .int x3)]) dX2_goThrough_193 (by decide) rfl (e_goto (tgt := 212) dX2_goThrough_194 rfl k)) ?_
  refine es_sub [1, 0, 2] rfl ?_
  exact t_X2_goThrough_212 N k14 hk14 s0 x3 S r hf
def f_X2_goThrough_74 (N : Nat) (k14 : Int32 → Int32 → xS → Option xr) (x2 : Int32) (x3 : Int32) (a4 : Nat) (S : xS) : Option xr :=
  if xStep a4 then
  if (S.1 a4 0 : Int32).toInt ∈ [(2 : Int)] then
    xcI (f_X2_insert N a4 S) (fun v58 S57 =>
    if v58 = 0 then
      some (.inl (some (.inl 2)), S57)
    else
      f_X2_goThrough_212 N k14 x2 x3 S57
    )
  else
  if (S.1 a4 0 : Int32).toInt ∈ [(10 : Int), (12 : Int)] then
    xcI (f_X2_value N (S.1 a4 6) S) (fun v62 S61 =>
    if v62 = 0 then
      f_X2_goThrough_193 N k14 x3 (S61.1 a4 9) S61
    else
      f_X2_goThrough_193 N k14 x3 x2 S61
    )
  else
  if (S.1 a4 0 : Int32).toInt ∈ [(48 : Int)] then
    xcI (f_X0_moves N (S.1 a4 3) S) (fun v66 S65 =>
    if v66 = 0 then
      f_X2_goThrough_212 N k14 (S65.1 a4 9) x3 S65
    else
      xcI (f_X2_spend N S65) (fun v69 S68 =>
      if v69 = 0 then
        some (.inl (some (.inl 1)), S68)
      else
        f_X2_goThrough_212 N k14 x2 x3 S68
      )
    )
  else
  if (S.1 a4 0 : Int32).toInt ∈ [(49 : Int)] then
    f_X2_goThrough_212 N k14 (S.1 a4 9) x3 S
  else
  xcV (f_X2_act N a4 S) (fun S72 =>
  f_X2_goThrough_212 N k14 x2 x3 S72
  )
  else none
set_option maxRecDepth 100000 in
set_option maxHeartbeats 4000000 in
theorem t_X2_goThrough_74 {l : Launch} {w : xW} {g : Nat → xE} (N : Nat) (k14 : Int32 → Int32 → xS → Option xr) (hk14 : ∀ (x2 : Int32) (x3 : Int32) (S : xS) (r : xr), k14 x2 x3 S = some r → ES l w g M_X2_goThrough 14 [(0, .ref (w.2.1 + 409)), (2, .int x2), (3, .int x3)] [] S r) (x2 : Int32) (x3 : Int32) (a4 : Nat) (S : xS) (r : xr) (hf : f_X2_goThrough_74 N k14 x2 x3 a4 S = some r) : ES l w g M_X2_goThrough 74 [(0, .ref (w.2.1 + 409)), (2, .int x2), (3, .int x3), (4, .ref (w.2.1 + a4))] [] S r := by
  unfold f_X2_goThrough_74 at hf
  refine es_l (pc' := 76) (ls' := [(0, .ref (w.2.1 + 409)), (2, .int x2), (3, .int x3), (4, .ref (w.2.1 + a4))]) (st' := [.ref (w.2.1 + a4)]) (fun _ _ k => e_aload dX2_goThrough_74 3 rfl k) ?_
  obtain ⟨g55, hf⟩ := xg hf
  refine es_get (v := .int (S.1 a4 0)) xc_8 dX2_goThrough_76 fl_X2_64 (by decide) (xStep_lt g55) (cel_st g55 _ _ _) rfl ?_
  by_cases c56 : (S.1 a4 0 : Int32).toInt ∈ [(2 : Int)]
  · rw [if_pos c56] at hf
    refine es_l (pc' := 128) (ls' := [(0, .ref (w.2.1 + 409)), (2, .int x2), (3, .int x3), (4, .ref (w.2.1 + a4))]) (st' := []) (fun _ _ k => e_lookC (off := 49) dX2_goThrough_79 c56 (by decide) rfl k) ?_
    refine es_l (pc' := 131) (ls' := [(0, .ref (w.2.1 + 409)), (2, .int x2), (3, .int x3), (4, .ref (w.2.1 + a4))]) (st' := [.ref (w.2.1 + a4), .ref (w.2.1 + 409)]) (fun _ _ k => e_aload_n dX2_goThrough_128 0 rfl (e_aload dX2_goThrough_129 3 rfl k)) ?_
    refine es_callVI (as := [.ref (w.2.1 + a4)]) (rest := []) hf xc_2 dX2_goThrough_131 cs_X2_goThrough_X2_insert ml_X2_73 im_X2_insert se_X2_insert rfl rfl (Nat.le_of_ble_eq_true rfl) (Nat.le_of_ble_eq_true rfl) (by decide) rfl (cel_409 _ _ _) (fun _ e => t_X2_insert N a4 S _ e) (by decide) (fun v58 S57 hf => ?_)
    refine es_br (c := v58 = 0) (tgt := 137) (pf := 212) (st' := []) (fun _ _ a b => e_if_ne dX2_goThrough_134 rfl b a) (fun c59 => ?_) (fun c59 => ?_)
    · rw [if_pos c59] at hf
      refine es_l (pc' := 138) (ls' := [(0, .ref (w.2.1 + 409)), (2, .int x2), (3, .int x3), (4, .ref (w.2.1 + a4))]) (st' := [.int 2]) (fun _ _ k => e_iconst (v := 2) dX2_goThrough_137 (by decide) k) ?_
      exact es_ireturn (ty := .int) dX2_goThrough_138 rfl rfl hf
    · rw [if_neg c59] at hf
      refine es_sub [0, 1, 2] rfl ?_
      exact t_X2_goThrough_212 N k14 hk14 x2 x3 S57 r hf
  rw [if_neg c56] at hf
  by_cases c60 : (S.1 a4 0 : Int32).toInt ∈ [(10 : Int), (12 : Int)]
  · rw [if_pos c60] at hf
    refine es_l (pc' := 172) (ls' := [(0, .ref (w.2.1 + 409)), (2, .int x2), (3, .int x3), (4, .ref (w.2.1 + a4))]) (st' := []) (fun _ _ k => e_lookC (off := 93) dX2_goThrough_79 c60 (by decide) rfl k) ?_
    refine es_l (pc' := 175) (ls' := [(0, .ref (w.2.1 + 409)), (2, .int x2), (3, .int x3), (4, .ref (w.2.1 + a4))]) (st' := [.ref (w.2.1 + a4), .ref (w.2.1 + 409)]) (fun _ _ k => e_aload_n dX2_goThrough_172 0 rfl (e_aload dX2_goThrough_173 3 rfl k)) ?_
    refine es_get (v := .int (S.1 a4 6)) xc_8 dX2_goThrough_175 fl_X2_87 (by decide) (xStep_lt g55) (cel_st g55 _ _ _) rfl ?_
    refine es_callVI (as := [.int (S.1 a4 6)]) (rest := []) hf xc_2 dX2_goThrough_178 cs_X2_goThrough_X2_value ml_X2_90 im_X2_value se_X2_value rfl rfl (Nat.le_of_ble_eq_true rfl) (Nat.le_of_ble_eq_true rfl) (by decide) rfl (cel_409 _ _ _) (fun _ e => t_X2_value N (S.1 a4 6) S _ e) (by decide) (fun v62 S61 hf => ?_)
    refine es_br (c := v62 = 0) (tgt := 184) (pf := 192) (st' := []) (fun _ _ a b => e_if_ne dX2_goThrough_181 rfl b a) (fun c63 => ?_) (fun c63 => ?_)
    · rw [if_pos c63] at hf
      refine es_l (pc' := 186) (ls' := [(0, .ref (w.2.1 + 409)), (2, .int x2), (3, .int x3), (4, .ref (w.2.1 + a4))]) (st' := [.ref (w.2.1 + a4)]) (fun _ _ k => e_aload dX2_goThrough_184 3 rfl k) ?_
      refine es_get (v := .int (S61.1 a4 9)) xc_8 dX2_goThrough_186 fl_X2_84 (by decide) (xStep_lt g55) (cel_st g55 _ _ _) rfl ?_
      refine es_l (pc' := 193) (ls' := [(0, .ref (w.2.1 + 409)), (2, .int x2), (3, .int x3), (4, .ref (w.2.1 + a4))]) (st' := [.int (S61.1 a4 9)]) (fun _ _ k => e_goto (tgt := 193) dX2_goThrough_189 rfl k) ?_
      refine es_sub [0, 2] rfl ?_
      exact t_X2_goThrough_193 N k14 hk14 x3 (S61.1 a4 9) S61 r hf
    · rw [if_neg c63] at hf
      refine es_l (pc' := 193) (ls' := [(0, .ref (w.2.1 + 409)), (2, .int x2), (3, .int x3), (4, .ref (w.2.1 + a4))]) (st' := [.int x2]) (fun _ _ k => e_iload_n dX2_goThrough_192 1 rfl k) ?_
      refine es_sub [0, 2] rfl ?_
      exact t_X2_goThrough_193 N k14 hk14 x3 x2 S61 r hf
  rw [if_neg c60] at hf
  by_cases c64 : (S.1 a4 0 : Int32).toInt ∈ [(48 : Int)]
  · rw [if_pos c64] at hf
    refine es_l (pc' := 139) (ls' := [(0, .ref (w.2.1 + 409)), (2, .int x2), (3, .int x3), (4, .ref (w.2.1 + a4))]) (st' := []) (fun _ _ k => e_lookC (off := 60) dX2_goThrough_79 c64 (by decide) rfl k) ?_
    refine es_l (pc' := 140) (ls' := [(0, .ref (w.2.1 + 409)), (2, .int x2), (3, .int x3), (4, .ref (w.2.1 + a4))]) (st' := [.ref (w.2.1 + 409)]) (fun _ _ k => e_aload_n dX2_goThrough_139 0 rfl k) ?_
    refine es_get (v := .ref (w.2.1 + 478)) xc_2 dX2_goThrough_140 fl_X2_43 (by decide) (by decide) (cel_409 _ _ _) rfl ?_
    refine es_l (pc' := 145) (ls' := [(0, .ref (w.2.1 + 409)), (2, .int x2), (3, .int x3), (4, .ref (w.2.1 + a4))]) (st' := [.ref (w.2.1 + a4), .ref (w.2.1 + 478)]) (fun _ _ k => e_aload dX2_goThrough_143 3 rfl k) ?_
    refine es_get (v := .int (S.1 a4 3)) xc_8 dX2_goThrough_145 fl_X2_77 (by decide) (xStep_lt g55) (cel_st g55 _ _ _) rfl ?_
    refine es_callVI (as := [.int (S.1 a4 3)]) (rest := []) hf xc_0 dX2_goThrough_148 cs_X2_goThrough_X0_moves ml_X2_80 im_X0_moves se_X0_moves rfl rfl (Nat.le_of_ble_eq_true rfl) (Nat.le_of_ble_eq_true rfl) (by decide) rfl (cel_478 _ _ _) (fun _ e => t_X0_moves N (S.1 a4 3) S _ e) (by decide) (fun v66 S65 hf => ?_)
    refine es_br (c := v66 = 0) (tgt := 154) (pf := 163) (st' := []) (fun _ _ a b => e_if_ne dX2_goThrough_151 rfl b a) (fun c67 => ?_) (fun c67 => ?_)
    · rw [if_pos c67] at hf
      refine es_l (pc' := 156) (ls' := [(0, .ref (w.2.1 + 409)), (2, .int x2), (3, .int x3), (4, .ref (w.2.1 + a4))]) (st' := [.ref (w.2.1 + a4)]) (fun _ _ k => e_aload dX2_goThrough_154 3 rfl k) ?_
      refine es_get (v := .int (S65.1 a4 9)) xc_8 dX2_goThrough_156 fl_X2_84 (by decide) (xStep_lt g55) (cel_st g55 _ _ _) rfl ?_
      refine es_l (pc' := 212) (ls' := [(2, .int (S65.1 a4 9)), (0, .ref (w.2.1 + 409)), (3, .int x3), (4, .ref (w.2.1 + a4))]) (st' := []) (fun _ _ k => e_istore_n (ls' := [(2, .int (S65.1 a4 9)), (0, .ref (w.2.1 + 409)), (3, .int x3), (4, .ref (w.2.1 + a4))]) dX2_goThrough_159 (by decide) rfl (e_goto (tgt := 212) dX2_goThrough_160 rfl k)) ?_
      refine es_sub [1, 0, 2] rfl ?_
      exact t_X2_goThrough_212 N k14 hk14 (S65.1 a4 9) x3 S65 r hf
    · rw [if_neg c67] at hf
      refine es_l (pc' := 164) (ls' := [(0, .ref (w.2.1 + 409)), (2, .int x2), (3, .int x3), (4, .ref (w.2.1 + a4))]) (st' := [.ref (w.2.1 + 409)]) (fun _ _ k => e_aload_n dX2_goThrough_163 0 rfl k) ?_
      refine es_callVI (as := []) (rest := []) hf xc_2 dX2_goThrough_164 cs_X2_goThrough_X2_spend ml_X2_69 im_X2_spend se_X2_spend rfl rfl (Nat.le_of_ble_eq_true rfl) (Nat.le_of_ble_eq_true rfl) (by decide) rfl (cel_409 _ _ _) (fun _ e => t_X2_spend N  S65 _ e) (by decide) (fun v69 S68 hf => ?_)
      refine es_br (c := v69 = 0) (tgt := 170) (pf := 212) (st' := []) (fun _ _ a b => e_if_ne dX2_goThrough_167 rfl b a) (fun c70 => ?_) (fun c70 => ?_)
      · rw [if_pos c70] at hf
        refine es_l (pc' := 171) (ls' := [(0, .ref (w.2.1 + 409)), (2, .int x2), (3, .int x3), (4, .ref (w.2.1 + a4))]) (st' := [.int 1]) (fun _ _ k => e_iconst (v := 1) dX2_goThrough_170 (by decide) k) ?_
        exact es_ireturn (ty := .int) dX2_goThrough_171 rfl rfl hf
      · rw [if_neg c70] at hf
        refine es_sub [0, 1, 2] rfl ?_
        exact t_X2_goThrough_212 N k14 hk14 x2 x3 S68 r hf
  rw [if_neg c64] at hf
  by_cases c71 : (S.1 a4 0 : Int32).toInt ∈ [(49 : Int)]
  · rw [if_pos c71] at hf
    refine es_l (pc' := 197) (ls' := [(0, .ref (w.2.1 + 409)), (2, .int x2), (3, .int x3), (4, .ref (w.2.1 + a4))]) (st' := []) (fun _ _ k => e_lookC (off := 118) dX2_goThrough_79 c71 (by decide) rfl k) ?_
    refine es_l (pc' := 199) (ls' := [(0, .ref (w.2.1 + 409)), (2, .int x2), (3, .int x3), (4, .ref (w.2.1 + a4))]) (st' := [.ref (w.2.1 + a4)]) (fun _ _ k => e_aload dX2_goThrough_197 3 rfl k) ?_
    refine es_get (v := .int (S.1 a4 9)) xc_8 dX2_goThrough_199 fl_X2_84 (by decide) (xStep_lt g55) (cel_st g55 _ _ _) rfl ?_
    refine es_l (pc' := 212) (ls' := [(2, .int (S.1 a4 9)), (0, .ref (w.2.1 + 409)), (3, .int x3), (4, .ref (w.2.1 + a4))]) (st' := []) (fun _ _ k => e_istore_n (ls' := [(2, .int (S.1 a4 9)), (0, .ref (w.2.1 + 409)), (3, .int x3), (4, .ref (w.2.1 + a4))]) dX2_goThrough_202 (by decide) rfl (e_goto (tgt := 212) dX2_goThrough_203 rfl k)) ?_
    refine es_sub [1, 0, 2] rfl ?_
    exact t_X2_goThrough_212 N k14 hk14 (S.1 a4 9) x3 S r hf
  rw [if_neg c71] at hf
  refine es_l (pc' := 206) (ls' := [(0, .ref (w.2.1 + 409)), (2, .int x2), (3, .int x3), (4, .ref (w.2.1 + a4))]) (st' := []) (fun _ _ k => e_lookD (L := [2, 10, 12, 48, 49]) dX2_goThrough_79 (by  simp only [List.mem_cons, List.not_mem_nil, or_false] at *; omega) (by decide) rfl k) ?_
  refine es_l (pc' := 209) (ls' := [(0, .ref (w.2.1 + 409)), (2, .int x2), (3, .int x3), (4, .ref (w.2.1 + a4))]) (st' := [.ref (w.2.1 + a4), .ref (w.2.1 + 409)]) (fun _ _ k => e_aload_n dX2_goThrough_206 0 rfl (e_aload dX2_goThrough_207 3 rfl k)) ?_
  refine es_callVV (as := [.ref (w.2.1 + a4)]) (rest := []) hf xc_2 dX2_goThrough_209 cs_X2_goThrough_X2_act ml_X2_93 im_X2_act se_X2_act rfl rfl (Nat.le_of_ble_eq_true rfl) (Nat.le_of_ble_eq_true rfl) (by decide) rfl (cel_409 _ _ _) (fun _ e => t_X2_act N a4 S _ e) (by decide) (fun S72 hf => ?_)
  refine es_sub [0, 1, 2] rfl ?_
  exact t_X2_goThrough_212 N k14 hk14 x2 x3 S72 r hf
def f_X2_goThrough_14 (N : Nat)  : Nat → Int32 → Int32 → xS → Option xr
  | 0, _, _, _ => none
  | n + 1, x2, x3, S =>
  if 1000000 ≤ x3 then
    f_X2_goThrough_218 N S
  else
    if (S.1 97 4) ≤ x2 then
      f_X2_goThrough_218 N S
    else
      if xin x2 151 then
      if (S.1 (102 + 2 * x2.toNatClampNeg) 0) = 49 then
        f_X2_goThrough_74 N (f_X2_goThrough_14 N n) (x2 + 1) x3 (102 + 2 * x2.toNatClampNeg) S
      else
        if (S.1 (102 + 2 * x2.toNatClampNeg) 0) = 48 then
          f_X2_goThrough_74 N (f_X2_goThrough_14 N n) (x2 + 1) x3 (102 + 2 * x2.toNatClampNeg) S
        else
          xcI (f_X2_spend N S) (fun v80 S79 =>
          if v80 = 0 then
            some (.inl (some (.inl 1)), S79)
          else
            f_X2_goThrough_74 N (f_X2_goThrough_14 N n) (x2 + 1) x3 (102 + 2 * x2.toNatClampNeg) S79
          )
      else none
set_option maxRecDepth 100000 in
set_option maxHeartbeats 4000000 in
theorem t_X2_goThrough_14 {l : Launch} {w : xW} {g : Nat → xE} (N : Nat)   : ∀ (n : Nat) (x2 : Int32) (x3 : Int32) (S : xS) (r : xr), f_X2_goThrough_14 N  n x2 x3 S = some r → ES l w g M_X2_goThrough 14 [(0, .ref (w.2.1 + 409)), (2, .int x2), (3, .int x3)] [] S r := by
  intro n
  induction n with
  | zero => intro x2 x3 S r hf; cases hf
  | succ n ih =>
    intro x2 x3 S r hf
    rw [f_X2_goThrough_14.eq_2] at hf
    refine es_l (pc' := 17) (ls' := [(0, .ref (w.2.1 + 409)), (2, .int x2), (3, .int x3)]) (st' := [.int 1000000, .int x3]) (fun _ _ k => e_iload_n dX2_goThrough_14 2 rfl (e_ldc dX2_goThrough_15 ki_X2_54 k)) ?_
    refine es_br (c := 1000000 ≤ x3) (tgt := 218) (pf := 20) (st' := []) (fun _ _ a b => e_icmp_ge dX2_goThrough_17 rfl a b) (fun c74 => ?_) (fun c74 => ?_)
    · rw [if_pos c74] at hf
      refine es_sub [] rfl ?_
      exact t_X2_goThrough_218 N S r hf
    · rw [if_neg c74] at hf
      refine es_l (pc' := 22) (ls' := [(0, .ref (w.2.1 + 409)), (2, .int x2), (3, .int x3)]) (st' := [.ref (w.2.1 + 409), .int x2]) (fun _ _ k => e_iload_n dX2_goThrough_20 1 rfl (e_aload_n dX2_goThrough_21 0 rfl k)) ?_
      refine es_get (v := .ref (w.2.1 + 97)) xc_2 dX2_goThrough_22 fl_X2_26 (by decide) (by decide) (cel_409 _ _ _) rfl ?_
      refine es_get (v := .int (S.1 97 4)) xc_5 dX2_goThrough_25 fl_X2_55 (by decide) (by decide) (cel_97 _ _ _) rfl ?_
      refine es_br (c := (S.1 97 4) ≤ x2) (tgt := 218) (pf := 31) (st' := []) (fun _ _ a b => e_icmp_ge dX2_goThrough_28 rfl a b) (fun c75 => ?_) (fun c75 => ?_)
      · rw [if_pos c75] at hf
        refine es_sub [] rfl ?_
        exact t_X2_goThrough_218 N S r hf
      · rw [if_neg c75] at hf
        refine es_l (pc' := 32) (ls' := [(0, .ref (w.2.1 + 409)), (2, .int x2), (3, .int x3)]) (st' := [.ref (w.2.1 + 409)]) (fun _ _ k => e_aload_n dX2_goThrough_31 0 rfl k) ?_
        refine es_get (v := .ref (w.2.1 + 97)) xc_2 dX2_goThrough_32 fl_X2_26 (by decide) (by decide) (cel_409 _ _ _) rfl ?_
        refine es_get (v := .ref (w.2.1 + 98)) xc_5 dX2_goThrough_35 fl_X2_60 (by decide) (by decide) (cel_97 _ _ _) rfl ?_
        refine es_l (pc' := 39) (ls' := [(0, .ref (w.2.1 + 409)), (2, .int x2), (3, .int x3)]) (st' := [.int x2, .ref (w.2.1 + 98)]) (fun _ _ k => e_iload_n dX2_goThrough_38 1 rfl k) ?_
        obtain ⟨g76, hf⟩ := xg hf
        refine es_aald (v := .ref (w.2.1 + (102 + 2 * x2.toNatClampNeg))) rfl dX2_goThrough_39 (by decide) (cel_98 _ _ _) g76 rfl ?_
        refine es_l (pc' := 47) (ls' := [(2, .int (x2 + 1)), (4, .ref (w.2.1 + (102 + 2 * x2.toNatClampNeg))), (0, .ref (w.2.1 + 409)), (3, .int x3)]) (st' := [.ref (w.2.1 + (102 + 2 * x2.toNatClampNeg))]) (fun _ _ k => e_astore (ls' := [(4, .ref (w.2.1 + (102 + 2 * x2.toNatClampNeg))), (0, .ref (w.2.1 + 409)), (2, .int x2), (3, .int x3)]) dX2_goThrough_40 (by decide) rfl (e_iinc (v := x2 + 1) (ls' := [(2, .int (x2 + 1)), (4, .ref (w.2.1 + (102 + 2 * x2.toNatClampNeg))), (0, .ref (w.2.1 + 409)), (3, .int x3)]) dX2_goThrough_42 2 rfl rfl (by decide) rfl (e_aload dX2_goThrough_45 1 rfl k))) ?_
        refine es_get (v := .int (S.1 (102 + 2 * x2.toNatClampNeg) 0)) xc_8 dX2_goThrough_47 fl_X2_64 (by decide) (xStep_lt (xStep_at g76)) (cel_st (xStep_at g76) _ _ _) rfl ?_
        refine es_l (pc' := 52) (ls' := [(2, .int (x2 + 1)), (4, .ref (w.2.1 + (102 + 2 * x2.toNatClampNeg))), (0, .ref (w.2.1 + 409)), (3, .int x3)]) (st' := [.int 49, .int (S.1 (102 + 2 * x2.toNatClampNeg) 0)]) (fun _ _ k => e_bipush (v := 49) dX2_goThrough_50 (by decide) k) ?_
        refine es_br (c := (S.1 (102 + 2 * x2.toNatClampNeg) 0) = 49) (tgt := 74) (pf := 55) (st' := []) (fun _ _ a b => e_icmp_eq dX2_goThrough_52 rfl a b) (fun c77 => ?_) (fun c77 => ?_)
        · rw [if_pos c77] at hf
          refine es_sub [2, 0, 3, 1] rfl ?_
          exact t_X2_goThrough_74 N (f_X2_goThrough_14 N n) ih (x2 + 1) x3 (102 + 2 * x2.toNatClampNeg) S r hf
        · rw [if_neg c77] at hf
          refine es_l (pc' := 57) (ls' := [(2, .int (x2 + 1)), (4, .ref (w.2.1 + (102 + 2 * x2.toNatClampNeg))), (0, .ref (w.2.1 + 409)), (3, .int x3)]) (st' := [.ref (w.2.1 + (102 + 2 * x2.toNatClampNeg))]) (fun _ _ k => e_aload dX2_goThrough_55 1 rfl k) ?_
          refine es_get (v := .int (S.1 (102 + 2 * x2.toNatClampNeg) 0)) xc_8 dX2_goThrough_57 fl_X2_64 (by decide) (xStep_lt (xStep_at g76)) (cel_st (xStep_at g76) _ _ _) rfl ?_
          refine es_l (pc' := 62) (ls' := [(2, .int (x2 + 1)), (4, .ref (w.2.1 + (102 + 2 * x2.toNatClampNeg))), (0, .ref (w.2.1 + 409)), (3, .int x3)]) (st' := [.int 48, .int (S.1 (102 + 2 * x2.toNatClampNeg) 0)]) (fun _ _ k => e_bipush (v := 48) dX2_goThrough_60 (by decide) k) ?_
          refine es_br (c := (S.1 (102 + 2 * x2.toNatClampNeg) 0) = 48) (tgt := 74) (pf := 65) (st' := []) (fun _ _ a b => e_icmp_eq dX2_goThrough_62 rfl a b) (fun c78 => ?_) (fun c78 => ?_)
          · rw [if_pos c78] at hf
            refine es_sub [2, 0, 3, 1] rfl ?_
            exact t_X2_goThrough_74 N (f_X2_goThrough_14 N n) ih (x2 + 1) x3 (102 + 2 * x2.toNatClampNeg) S r hf
          · rw [if_neg c78] at hf
            refine es_l (pc' := 66) (ls' := [(2, .int (x2 + 1)), (4, .ref (w.2.1 + (102 + 2 * x2.toNatClampNeg))), (0, .ref (w.2.1 + 409)), (3, .int x3)]) (st' := [.ref (w.2.1 + 409)]) (fun _ _ k => e_aload_n dX2_goThrough_65 2 rfl k) ?_
            refine es_callVI (as := []) (rest := []) hf xc_2 dX2_goThrough_66 cs_X2_goThrough_X2_spend ml_X2_69 im_X2_spend se_X2_spend rfl rfl (Nat.le_of_ble_eq_true rfl) (Nat.le_of_ble_eq_true rfl) (by decide) rfl (cel_409 _ _ _) (fun _ e => t_X2_spend N  S _ e) (by decide) (fun v80 S79 hf => ?_)
            refine es_br (c := v80 = 0) (tgt := 72) (pf := 74) (st' := []) (fun _ _ a b => e_if_ne dX2_goThrough_69 rfl b a) (fun c81 => ?_) (fun c81 => ?_)
            · rw [if_pos c81] at hf
              refine es_l (pc' := 73) (ls' := [(2, .int (x2 + 1)), (4, .ref (w.2.1 + (102 + 2 * x2.toNatClampNeg))), (0, .ref (w.2.1 + 409)), (3, .int x3)]) (st' := [.int 1]) (fun _ _ k => e_iconst (v := 1) dX2_goThrough_72 (by decide) k) ?_
              exact es_ireturn (ty := .int) dX2_goThrough_73 rfl rfl hf
            · rw [if_neg c81] at hf
              refine es_sub [2, 0, 3, 1] rfl ?_
              exact t_X2_goThrough_74 N (f_X2_goThrough_14 N n) ih (x2 + 1) x3 (102 + 2 * x2.toNatClampNeg) S79 r hf
def f_X2_goThrough (N : Nat) (x1 : Int32) (S : xS) : Option xr :=
  f_X2_goThrough_14 N N 0 0 (sI (sI S 409 9 x1) 409 10 0)
set_option maxRecDepth 100000 in
set_option maxHeartbeats 4000000 in
theorem t_X2_goThrough {l : Launch} {w : xW} {g : Nat → xE} (N : Nat) (x1 : Int32) (S : xS) (r : xr) (hf : f_X2_goThrough N x1 S = some r) : ES l w g M_X2_goThrough 0 (lv_args 0 [.ref (w.2.1 + 409), .int x1]) [] S r := by
  show ES l w g M_X2_goThrough 0 [(0, .ref (w.2.1 + 409)), (1, .int x1)] [] S r
  unfold f_X2_goThrough at hf
  refine es_l (pc' := 2) (ls' := [(0, .ref (w.2.1 + 409)), (1, .int x1)]) (st' := [.int x1, .ref (w.2.1 + 409)]) (fun _ _ k => e_aload_n dX2_goThrough_0 0 rfl (e_iload_n dX2_goThrough_1 1 rfl k)) ?_
  refine es_put xc_2 dX2_goThrough_2 fl_X2_47 (by decide) (by decide) (by decide) (cel_409 _ _ _) rfl rfl rfl rfl ?_
  refine es_l (pc' := 7) (ls' := [(0, .ref (w.2.1 + 409)), (1, .int x1)]) (st' := [.int 0, .ref (w.2.1 + 409)]) (fun _ _ k => e_aload_n dX2_goThrough_5 0 rfl (e_iconst (v := 0) dX2_goThrough_6 (by decide) k)) ?_
  refine es_put xc_2 dX2_goThrough_7 fl_X2_51 (by decide) (by decide) (by decide) (cel_409 _ _ _) rfl rfl rfl rfl ?_
  refine es_l (pc' := 14) (ls' := [(3, .int 0), (2, .int 0), (0, .ref (w.2.1 + 409)), (1, .int x1)]) (st' := []) (fun _ _ k => e_iconst (v := 0) dX2_goThrough_10 (by decide) (e_istore_n (ls' := [(2, .int 0), (0, .ref (w.2.1 + 409)), (1, .int x1)]) dX2_goThrough_11 (by decide) rfl (e_iconst (v := 0) dX2_goThrough_12 (by decide) (e_istore_n (ls' := [(3, .int 0), (2, .int 0), (0, .ref (w.2.1 + 409)), (1, .int x1)]) dX2_goThrough_13 (by decide) rfl k)))) ?_
  refine es_sub [2, 1, 0] rfl ?_
  exact t_X2_goThrough_14 N N 0 0 (sI (sI S 409 9 x1) 409 10 0) r hf
def f_X3_keep (N : Nat)  (S : xS) : Option xr :=
  some (.inl none, sI (sI S 7 7 (S.1 7 5)) 7 8 (S.1 7 6))
set_option maxRecDepth 100000 in
set_option maxHeartbeats 4000000 in
theorem t_X3_keep {l : Launch} {w : xW} {g : Nat → xE} (N : Nat)  (S : xS) (r : xr) (hf : f_X3_keep N  S = some r) : ES l w g M_X3_keep 0 (lv_args 0 [.ref (w.2.1 + 7)]) [] S r := by
  show ES l w g M_X3_keep 0 [(0, .ref (w.2.1 + 7))] [] S r
  unfold f_X3_keep at hf
  refine es_l (pc' := 2) (ls' := [(0, .ref (w.2.1 + 7))]) (st' := [.ref (w.2.1 + 7), .ref (w.2.1 + 7)]) (fun _ _ k => e_aload_n dX3_keep_0 0 rfl (e_aload_n dX3_keep_1 0 rfl k)) ?_
  refine es_get (v := .int (S.1 7 5)) xc_3 dX3_keep_2 fl_X3_32 (by decide) (by decide) (cel_7 _ _ _) rfl ?_
  refine es_put xc_3 dX3_keep_5 fl_X3_36 (by decide) (by decide) (by decide) (cel_7 _ _ _) rfl rfl rfl rfl ?_
  refine es_l (pc' := 10) (ls' := [(0, .ref (w.2.1 + 7))]) (st' := [.ref (w.2.1 + 7), .ref (w.2.1 + 7)]) (fun _ _ k => e_aload_n dX3_keep_8 0 rfl (e_aload_n dX3_keep_9 0 rfl k)) ?_
  refine es_get (v := .int (S.1 7 6)) xc_3 dX3_keep_10 fl_X3_39 (by decide) (by decide) (cel_7 _ _ _) rfl ?_
  refine es_put xc_3 dX3_keep_13 fl_X3_42 (by decide) (by decide) (by decide) (cel_7 _ _ _) rfl rfl rfl rfl ?_
  exact es_return dX3_keep_16 rfl hf
def f_X3_takeBack (N : Nat)  (S : xS) : Option xr :=
  some (.inl none, sI (sI S 7 5 (S.1 7 7)) 7 6 (S.1 7 8))
set_option maxRecDepth 100000 in
set_option maxHeartbeats 4000000 in
theorem t_X3_takeBack {l : Launch} {w : xW} {g : Nat → xE} (N : Nat)  (S : xS) (r : xr) (hf : f_X3_takeBack N  S = some r) : ES l w g M_X3_takeBack 0 (lv_args 0 [.ref (w.2.1 + 7)]) [] S r := by
  show ES l w g M_X3_takeBack 0 [(0, .ref (w.2.1 + 7))] [] S r
  unfold f_X3_takeBack at hf
  refine es_l (pc' := 2) (ls' := [(0, .ref (w.2.1 + 7))]) (st' := [.ref (w.2.1 + 7), .ref (w.2.1 + 7)]) (fun _ _ k => e_aload_n dX3_takeBack_0 0 rfl (e_aload_n dX3_takeBack_1 0 rfl k)) ?_
  refine es_get (v := .int (S.1 7 7)) xc_3 dX3_takeBack_2 fl_X3_36 (by decide) (by decide) (cel_7 _ _ _) rfl ?_
  refine es_put xc_3 dX3_takeBack_5 fl_X3_32 (by decide) (by decide) (by decide) (cel_7 _ _ _) rfl rfl rfl rfl ?_
  refine es_l (pc' := 10) (ls' := [(0, .ref (w.2.1 + 7))]) (st' := [.ref (w.2.1 + 7), .ref (w.2.1 + 7)]) (fun _ _ k => e_aload_n dX3_takeBack_8 0 rfl (e_aload_n dX3_takeBack_9 0 rfl k)) ?_
  refine es_get (v := .int (S.1 7 8)) xc_3 dX3_takeBack_10 fl_X3_42 (by decide) (by decide) (cel_7 _ _ _) rfl ?_
  refine es_put xc_3 dX3_takeBack_13 fl_X3_39 (by decide) (by decide) (by decide) (cel_7 _ _ _) rfl rfl rfl rfl ?_
  exact es_return dX3_takeBack_16 rfl hf
def f_X3_addKind (N : Nat) (y1 : Int64) (S : xS) : Option xr :=
  if (S.1 7 5) = 7 then
    some (.inl (some (.inl 0)), S)
  else
    if xin ((S.1 7 5) + 1) 8 then
    some (.inl (some (.inl ((S.1 7 5) + 1))), sI (sJ (sI S 7 5 ((S.1 7 5) + 1)) 8 (((S.1 7 5) + 1).toNatClampNeg) y1) 9 (((S.1 7 5) + 1).toNatClampNeg) 0)
    else none
set_option maxRecDepth 100000 in
set_option maxHeartbeats 4000000 in
theorem t_X3_addKind {l : Launch} {w : xW} {g : Nat → xE} (N : Nat) (y1 : Int64) (S : xS) (r : xr) (hf : f_X3_addKind N y1 S = some r) : ES l w g M_X3_addKind 0 (lv_args 0 [.ref (w.2.1 + 7), .long y1]) [] S r := by
  show ES l w g M_X3_addKind 0 [(0, .ref (w.2.1 + 7)), (1, .long y1)] [] S r
  unfold f_X3_addKind at hf
  refine es_l (pc' := 1) (ls' := [(0, .ref (w.2.1 + 7)), (1, .long y1)]) (st' := [.ref (w.2.1 + 7)]) (fun _ _ k => e_aload_n dX3_addKind_0 0 rfl k) ?_
  refine es_get (v := .int (S.1 7 5)) xc_3 dX3_addKind_1 fl_X3_32 (by decide) (by decide) (cel_7 _ _ _) rfl ?_
  refine es_l (pc' := 6) (ls' := [(0, .ref (w.2.1 + 7)), (1, .long y1)]) (st' := [.int 7, .int (S.1 7 5)]) (fun _ _ k => e_bipush (v := 7) dX3_addKind_4 (by decide) k) ?_
  refine es_br (c := (S.1 7 5) = 7) (tgt := 9) (pf := 11) (st' := []) (fun _ _ a b => e_icmp_ne dX3_addKind_6 rfl b a) (fun c3 => ?_) (fun c3 => ?_)
  · rw [if_pos c3] at hf
    refine es_l (pc' := 10) (ls' := [(0, .ref (w.2.1 + 7)), (1, .long y1)]) (st' := [.int 0]) (fun _ _ k => e_iconst (v := 0) dX3_addKind_9 (by decide) k) ?_
    exact es_ireturn (ty := .int) dX3_addKind_10 rfl rfl hf
  · rw [if_neg c3] at hf
    refine es_l (pc' := 13) (ls' := [(0, .ref (w.2.1 + 7)), (1, .long y1)]) (st' := [.ref (w.2.1 + 7), .ref (w.2.1 + 7)]) (fun _ _ k => e_aload_n dX3_addKind_11 0 rfl (e_dup dX3_addKind_12 rfl k)) ?_
    refine es_get (v := .int (S.1 7 5)) xc_3 dX3_addKind_13 fl_X3_32 (by decide) (by decide) (cel_7 _ _ _) rfl ?_
    refine es_l (pc' := 18) (ls' := [(0, .ref (w.2.1 + 7)), (1, .long y1)]) (st' := [.int ((S.1 7 5) + 1), .ref (w.2.1 + 7)]) (fun _ _ k => e_iconst (v := 1) dX3_addKind_16 (by decide) (e_iadd dX3_addKind_17 k)) ?_
    refine es_put xc_3 dX3_addKind_18 fl_X3_32 (by decide) (by decide) (by decide) (cel_7 _ _ _) rfl rfl rfl rfl ?_
    refine es_l (pc' := 22) (ls' := [(0, .ref (w.2.1 + 7)), (1, .long y1)]) (st' := [.ref (w.2.1 + 7)]) (fun _ _ k => e_aload_n dX3_addKind_21 0 rfl k) ?_
    refine es_get (v := .ref (w.2.1 + 8)) xc_3 dX3_addKind_22 fl_X3_9 (by decide) (by decide) (cel_7 _ _ _) rfl ?_
    refine es_l (pc' := 26) (ls' := [(0, .ref (w.2.1 + 7)), (1, .long y1)]) (st' := [.ref (w.2.1 + 7), .ref (w.2.1 + 8)]) (fun _ _ k => e_aload_n dX3_addKind_25 0 rfl k) ?_
    refine es_get (v := .int ((S.1 7 5) + 1)) xc_3 dX3_addKind_26 fl_X3_32 (by decide) (by decide) (cel_7 _ _ _) rfl ?_
    refine es_l (pc' := 30) (ls' := [(0, .ref (w.2.1 + 7)), (1, .long y1)]) (st' := [.long y1, .int ((S.1 7 5) + 1), .ref (w.2.1 + 8)]) (fun _ _ k => e_lload_n dX3_addKind_29 1 rfl k) ?_
    obtain ⟨g4, hf⟩ := xg hf
    refine es_last dX3_addKind_30 (by decide) (cel_8 _) g4 ?_
    refine es_l (pc' := 32) (ls' := [(0, .ref (w.2.1 + 7)), (1, .long y1)]) (st' := [.ref (w.2.1 + 7)]) (fun _ _ k => e_aload_n dX3_addKind_31 0 rfl k) ?_
    refine es_get (v := .ref (w.2.1 + 9)) xc_3 dX3_addKind_32 fl_X3_15 (by decide) (by decide) (cel_7 _ _ _) rfl ?_
    refine es_l (pc' := 36) (ls' := [(0, .ref (w.2.1 + 7)), (1, .long y1)]) (st' := [.ref (w.2.1 + 7), .ref (w.2.1 + 9)]) (fun _ _ k => e_aload_n dX3_addKind_35 0 rfl k) ?_
    refine es_get (v := .int ((S.1 7 5) + 1)) xc_3 dX3_addKind_36 fl_X3_32 (by decide) (by decide) (cel_7 _ _ _) rfl ?_
    refine es_l (pc' := 40) (ls' := [(0, .ref (w.2.1 + 7)), (1, .long y1)]) (st' := [.int 0, .int ((S.1 7 5) + 1), .ref (w.2.1 + 9)]) (fun _ _ k => e_iconst (v := 0) dX3_addKind_39 (by decide) k) ?_
    refine es_iast dX3_addKind_40 (by decide) (cel_9 _) g4 ?_
    refine es_l (pc' := 42) (ls' := [(0, .ref (w.2.1 + 7)), (1, .long y1)]) (st' := [.ref (w.2.1 + 7)]) (fun _ _ k => e_aload_n dX3_addKind_41 0 rfl k) ?_
    refine es_get (v := .int ((S.1 7 5) + 1)) xc_3 dX3_addKind_42 fl_X3_32 (by decide) (by decide) (cel_7 _ _ _) rfl ?_
    exact es_ireturn (ty := .int) dX3_addKind_45 rfl rfl hf
def f_X3_addField (N : Nat) (x1 : Int32) (y2 : Int64) (x4 : Int32) (S : xS) : Option xr :=
  if xin x1 8 then
  if xin (S.1 9 x1.toNatClampNeg) 6 then
  some (.inl none, sI (sI (sJ S (11 + x1.toNatClampNeg) ((S.1 9 x1.toNatClampNeg).toNatClampNeg) y2) (20 + x1.toNatClampNeg) ((S.1 9 x1.toNatClampNeg).toNatClampNeg) ((((1 : Int64) <<< ((x4 : Int32).toInt64 &&& 63)) - 1 : Int64).toInt32)) 9 x1.toNatClampNeg (((sI (sJ S (11 + x1.toNatClampNeg) ((S.1 9 x1.toNatClampNeg).toNatClampNeg) y2) (20 + x1.toNatClampNeg) ((S.1 9 x1.toNatClampNeg).toNatClampNeg) ((((1 : Int64) <<< ((x4 : Int32).toInt64 &&& 63)) - 1 : Int64).toInt32)).1 9 x1.toNatClampNeg) + 1))
  else none
  else none
set_option maxRecDepth 100000 in
set_option maxHeartbeats 4000000 in
theorem t_X3_addField {l : Launch} {w : xW} {g : Nat → xE} (N : Nat) (x1 : Int32) (y2 : Int64) (x4 : Int32) (S : xS) (r : xr) (hf : f_X3_addField N x1 y2 x4 S = some r) : ES l w g M_X3_addField 0 (lv_args 0 [.ref (w.2.1 + 7), .int x1, .long y2, .int x4]) [] S r := by
  show ES l w g M_X3_addField 0 [(0, .ref (w.2.1 + 7)), (1, .int x1), (2, .long y2), (4, .int x4)] [] S r
  unfold f_X3_addField at hf
  refine es_l (pc' := 1) (ls' := [(0, .ref (w.2.1 + 7)), (1, .int x1), (2, .long y2), (4, .int x4)]) (st' := [.ref (w.2.1 + 7)]) (fun _ _ k => e_aload_n dX3_addField_0 0 rfl k) ?_
  refine es_get (v := .ref (w.2.1 + 9)) xc_3 dX3_addField_1 fl_X3_15 (by decide) (by decide) (cel_7 _ _ _) rfl ?_
  refine es_l (pc' := 5) (ls' := [(0, .ref (w.2.1 + 7)), (1, .int x1), (2, .long y2), (4, .int x4)]) (st' := [.int x1, .ref (w.2.1 + 9)]) (fun _ _ k => e_iload_n dX3_addField_4 1 rfl k) ?_
  obtain ⟨g3, hf⟩ := xg hf
  refine es_iald (v := .int (S.1 9 x1.toNatClampNeg)) dX3_addField_5 (by decide) (cel_9 _ _ _) g3 rfl ?_
  refine es_l (pc' := 9) (ls' := [(5, .int (S.1 9 x1.toNatClampNeg)), (0, .ref (w.2.1 + 7)), (1, .int x1), (2, .long y2), (4, .int x4)]) (st' := [.ref (w.2.1 + 7)]) (fun _ _ k => e_istore (ls' := [(5, .int (S.1 9 x1.toNatClampNeg)), (0, .ref (w.2.1 + 7)), (1, .int x1), (2, .long y2), (4, .int x4)]) dX3_addField_6 (by decide) rfl (e_aload_n dX3_addField_8 1 rfl k)) ?_
  refine es_get (v := .ref (w.2.1 + 10)) xc_3 dX3_addField_9 fl_X3_21 (by decide) (by decide) (cel_7 _ _ _) rfl ?_
  refine es_l (pc' := 13) (ls' := [(5, .int (S.1 9 x1.toNatClampNeg)), (0, .ref (w.2.1 + 7)), (1, .int x1), (2, .long y2), (4, .int x4)]) (st' := [.int x1, .ref (w.2.1 + 10)]) (fun _ _ k => e_iload_n dX3_addField_12 2 rfl k) ?_
  refine es_aald (v := .ref (w.2.1 + (11 + x1.toNatClampNeg))) rfl dX3_addField_13 (by decide) (cel_10 _ _ _) g3 rfl ?_
  refine es_l (pc' := 17) (ls' := [(5, .int (S.1 9 x1.toNatClampNeg)), (0, .ref (w.2.1 + 7)), (1, .int x1), (2, .long y2), (4, .int x4)]) (st' := [.long y2, .int (S.1 9 x1.toNatClampNeg), .ref (w.2.1 + (11 + x1.toNatClampNeg))]) (fun _ _ k => e_iload dX3_addField_14 0 rfl (e_lload_n dX3_addField_16 3 rfl k)) ?_
  obtain ⟨g4, hf⟩ := xg hf
  refine es_last dX3_addField_17 (xReg11_lt (xReg11_at g3)) (cel_r11 (xReg11_at g3) _) g4 ?_
  refine es_l (pc' := 19) (ls' := [(5, .int (S.1 9 x1.toNatClampNeg)), (0, .ref (w.2.1 + 7)), (1, .int x1), (2, .long y2), (4, .int x4)]) (st' := [.ref (w.2.1 + 7)]) (fun _ _ k => e_aload_n dX3_addField_18 1 rfl k) ?_
  refine es_get (v := .ref (w.2.1 + 19)) xc_3 dX3_addField_19 fl_X3_26 (by decide) (by decide) (cel_7 _ _ _) rfl ?_
  refine es_l (pc' := 23) (ls' := [(5, .int (S.1 9 x1.toNatClampNeg)), (0, .ref (w.2.1 + 7)), (1, .int x1), (2, .long y2), (4, .int x4)]) (st' := [.int x1, .ref (w.2.1 + 19)]) (fun _ _ k => e_iload_n dX3_addField_22 2 rfl k) ?_
  refine es_aald (v := .ref (w.2.1 + (20 + x1.toNatClampNeg))) rfl dX3_addField_23 (by decide) (cel_19 _ _ _) g3 rfl ?_
  refine es_l (pc' := 33) (ls' := [(5, .int (S.1 9 x1.toNatClampNeg)), (0, .ref (w.2.1 + 7)), (1, .int x1), (2, .long y2), (4, .int x4)]) (st' := [.int ((((1 : Int64) <<< ((x4 : Int32).toInt64 &&& 63)) - 1 : Int64).toInt32), .int (S.1 9 x1.toNatClampNeg), .ref (w.2.1 + (20 + x1.toNatClampNeg))]) (fun _ _ k => e_iload dX3_addField_24 0 rfl (e_lconst (v := 1) dX3_addField_26 (by decide) (e_iload dX3_addField_27 4 rfl (e_lshl (v := (1 : Int64) <<< ((x4 : Int32).toInt64 &&& 63)) dX3_addField_29 rfl (e_lconst (v := 1) dX3_addField_30 (by decide) (e_lsub dX3_addField_31 (e_l2i (v := (((1 : Int64) <<< ((x4 : Int32).toInt64 &&& 63)) - 1 : Int64).toInt32) dX3_addField_32 rfl k))))))) ?_
  refine es_iast dX3_addField_33 (xReg20_lt (xReg20_at g3)) (cel_r20 (xReg20_at g3) _) g4 ?_
  refine es_l (pc' := 35) (ls' := [(5, .int (S.1 9 x1.toNatClampNeg)), (0, .ref (w.2.1 + 7)), (1, .int x1), (2, .long y2), (4, .int x4)]) (st' := [.ref (w.2.1 + 7)]) (fun _ _ k => e_aload_n dX3_addField_34 1 rfl k) ?_
  refine es_get (v := .ref (w.2.1 + 9)) xc_3 dX3_addField_35 fl_X3_15 (by decide) (by decide) (cel_7 _ _ _) rfl ?_
  refine es_l (pc' := 40) (ls' := [(5, .int (S.1 9 x1.toNatClampNeg)), (0, .ref (w.2.1 + 7)), (1, .int x1), (2, .long y2), (4, .int x4)]) (st' := [.int x1, .ref (w.2.1 + 9), .int x1, .ref (w.2.1 + 9)]) (fun _ _ k => e_iload_n dX3_addField_38 2 rfl (e_dup2 dX3_addField_39 rfl rfl k)) ?_
  refine es_iald (v := .int ((sI (sJ S (11 + x1.toNatClampNeg) ((S.1 9 x1.toNatClampNeg).toNatClampNeg) y2) (20 + x1.toNatClampNeg) ((S.1 9 x1.toNatClampNeg).toNatClampNeg) ((((1 : Int64) <<< ((x4 : Int32).toInt64 &&& 63)) - 1 : Int64).toInt32)).1 9 x1.toNatClampNeg)) dX3_addField_40 (by decide) (cel_9 _ _ _) g3 rfl ?_
  refine es_l (pc' := 43) (ls' := [(5, .int (S.1 9 x1.toNatClampNeg)), (0, .ref (w.2.1 + 7)), (1, .int x1), (2, .long y2), (4, .int x4)]) (st' := [.int (((sI (sJ S (11 + x1.toNatClampNeg) ((S.1 9 x1.toNatClampNeg).toNatClampNeg) y2) (20 + x1.toNatClampNeg) ((S.1 9 x1.toNatClampNeg).toNatClampNeg) ((((1 : Int64) <<< ((x4 : Int32).toInt64 &&& 63)) - 1 : Int64).toInt32)).1 9 x1.toNatClampNeg) + 1), .int x1, .ref (w.2.1 + 9)]) (fun _ _ k => e_iconst (v := 1) dX3_addField_41 (by decide) (e_iadd dX3_addField_42 k)) ?_
  refine es_iast dX3_addField_43 (by decide) (cel_9 _) g3 ?_
  exact es_return dX3_addField_44 rfl hf
def f_X5_clear (N : Nat)  (S : xS) : Option xr :=
  some (.inl none, sI (sI (sI S 97 4 0) 97 5 0) 97 6 0)
set_option maxRecDepth 100000 in
set_option maxHeartbeats 4000000 in
theorem t_X5_clear {l : Launch} {w : xW} {g : Nat → xE} (N : Nat)  (S : xS) (r : xr) (hf : f_X5_clear N  S = some r) : ES l w g M_X5_clear 0 (lv_args 0 [.ref (w.2.1 + 97)]) [] S r := by
  show ES l w g M_X5_clear 0 [(0, .ref (w.2.1 + 97))] [] S r
  unfold f_X5_clear at hf
  refine es_l (pc' := 2) (ls' := [(0, .ref (w.2.1 + 97))]) (st' := [.int 0, .ref (w.2.1 + 97)]) (fun _ _ k => e_aload_n dX5_clear_0 0 rfl (e_iconst (v := 0) dX5_clear_1 (by decide) k)) ?_
  refine es_put xc_5 dX5_clear_2 fl_X5_32 (by decide) (by decide) (by decide) (cel_97 _ _ _) rfl rfl rfl rfl ?_
  refine es_l (pc' := 7) (ls' := [(0, .ref (w.2.1 + 97))]) (st' := [.int 0, .ref (w.2.1 + 97)]) (fun _ _ k => e_aload_n dX5_clear_5 0 rfl (e_iconst (v := 0) dX5_clear_6 (by decide) k)) ?_
  refine es_put xc_5 dX5_clear_7 fl_X5_36 (by decide) (by decide) (by decide) (cel_97 _ _ _) rfl rfl rfl rfl ?_
  refine es_l (pc' := 12) (ls' := [(0, .ref (w.2.1 + 97))]) (st' := [.int 0, .ref (w.2.1 + 97)]) (fun _ _ k => e_aload_n dX5_clear_10 0 rfl (e_iconst (v := 0) dX5_clear_11 (by decide) k)) ?_
  refine es_put xc_5 dX5_clear_12 fl_X5_39 (by decide) (by decide) (by decide) (cel_97 _ _ _) rfl rfl rfl rfl ?_
  exact es_return dX5_clear_15 rfl hf
def f_X5_addStep (N : Nat) (x1 : Int32) (S : xS) : Option xr :=
  if xin (S.1 97 4) 151 then
  some (.inl (some (.inr (.inr (102 + 2 * (S.1 97 4).toNatClampNeg)))), sI (sI S (102 + 2 * (S.1 97 4).toNatClampNeg) 0 x1) 97 4 (((sI S (102 + 2 * (S.1 97 4).toNatClampNeg) 0 x1).1 97 4) + 1))
  else none
set_option maxRecDepth 100000 in
set_option maxHeartbeats 4000000 in
theorem t_X5_addStep {l : Launch} {w : xW} {g : Nat → xE} (N : Nat) (x1 : Int32) (S : xS) (r : xr) (hf : f_X5_addStep N x1 S = some r) : ES l w g M_X5_addStep 0 (lv_args 0 [.ref (w.2.1 + 97), .int x1]) [] S r := by
  show ES l w g M_X5_addStep 0 [(0, .ref (w.2.1 + 97)), (1, .int x1)] [] S r
  unfold f_X5_addStep at hf
  refine es_l (pc' := 1) (ls' := [(0, .ref (w.2.1 + 97)), (1, .int x1)]) (st' := [.ref (w.2.1 + 97)]) (fun _ _ k => e_aload_n dX5_addStep_0 0 rfl k) ?_
  refine es_get (v := .ref (w.2.1 + 98)) xc_5 dX5_addStep_1 fl_X5_11 (by decide) (by decide) (cel_97 _ _ _) rfl ?_
  refine es_l (pc' := 5) (ls' := [(0, .ref (w.2.1 + 97)), (1, .int x1)]) (st' := [.ref (w.2.1 + 97), .ref (w.2.1 + 98)]) (fun _ _ k => e_aload_n dX5_addStep_4 0 rfl k) ?_
  refine es_get (v := .int (S.1 97 4)) xc_5 dX5_addStep_5 fl_X5_32 (by decide) (by decide) (cel_97 _ _ _) rfl ?_
  obtain ⟨g2, hf⟩ := xg hf
  refine es_aald (v := .ref (w.2.1 + (102 + 2 * (S.1 97 4).toNatClampNeg))) rfl dX5_addStep_8 (by decide) (cel_98 _ _ _) g2 rfl ?_
  refine es_l (pc' := 12) (ls' := [(2, .ref (w.2.1 + (102 + 2 * (S.1 97 4).toNatClampNeg))), (0, .ref (w.2.1 + 97)), (1, .int x1)]) (st' := [.int x1, .ref (w.2.1 + (102 + 2 * (S.1 97 4).toNatClampNeg))]) (fun _ _ k => e_astore_n (ls' := [(2, .ref (w.2.1 + (102 + 2 * (S.1 97 4).toNatClampNeg))), (0, .ref (w.2.1 + 97)), (1, .int x1)]) dX5_addStep_9 (by decide) rfl (e_aload_n dX5_addStep_10 0 rfl (e_iload_n dX5_addStep_11 2 rfl k))) ?_
  refine es_put xc_8 dX5_addStep_12 fl_X5_42 (by decide) (by decide) (xStep_lt (xStep_at g2)) (cel_st (xStep_at g2) _ _ _) rfl rfl rfl (by rw [cel_st (xStep_at g2)]; rfl) ?_
  refine es_l (pc' := 17) (ls' := [(2, .ref (w.2.1 + (102 + 2 * (S.1 97 4).toNatClampNeg))), (0, .ref (w.2.1 + 97)), (1, .int x1)]) (st' := [.ref (w.2.1 + 97), .ref (w.2.1 + 97)]) (fun _ _ k => e_aload_n dX5_addStep_15 1 rfl (e_dup dX5_addStep_16 rfl k)) ?_
  refine es_get (v := .int ((sI S (102 + 2 * (S.1 97 4).toNatClampNeg) 0 x1).1 97 4)) xc_5 dX5_addStep_17 fl_X5_32 (by decide) (by decide) (cel_97 _ _ _) rfl ?_
  refine es_l (pc' := 22) (ls' := [(2, .ref (w.2.1 + (102 + 2 * (S.1 97 4).toNatClampNeg))), (0, .ref (w.2.1 + 97)), (1, .int x1)]) (st' := [.int (((sI S (102 + 2 * (S.1 97 4).toNatClampNeg) 0 x1).1 97 4) + 1), .ref (w.2.1 + 97)]) (fun _ _ k => e_iconst (v := 1) dX5_addStep_20 (by decide) (e_iadd dX5_addStep_21 k)) ?_
  refine es_put xc_5 dX5_addStep_22 fl_X5_32 (by decide) (by decide) (by decide) (cel_97 _ _ _) rfl rfl rfl rfl ?_
  refine es_l (pc' := 26) (ls' := [(2, .ref (w.2.1 + (102 + 2 * (S.1 97 4).toNatClampNeg))), (0, .ref (w.2.1 + 97)), (1, .int x1)]) (st' := [.ref (w.2.1 + (102 + 2 * (S.1 97 4).toNatClampNeg))]) (fun _ _ k => e_aload_n dX5_addStep_25 0 rfl k) ?_
  exact es_areturn (v := (102 + 2 * (S.1 97 4).toNatClampNeg)) dX5_addStep_26 rfl (Or.inl ⟨_, rfl⟩) hf
def f_X5_addPut (N : Nat) (x1 : Int32) (x2 : Int32) (S : xS) : Option xr :=
  if xin (S.1 97 6) 151 then
  some (.inl none, sI (sI (sI S 100 ((S.1 97 6).toNatClampNeg) x1) 101 ((S.1 97 6).toNatClampNeg) x2) 97 6 ((S.1 97 6) + 1))
  else none
set_option maxRecDepth 100000 in
set_option maxHeartbeats 4000000 in
theorem t_X5_addPut {l : Launch} {w : xW} {g : Nat → xE} (N : Nat) (x1 : Int32) (x2 : Int32) (S : xS) (r : xr) (hf : f_X5_addPut N x1 x2 S = some r) : ES l w g M_X5_addPut 0 (lv_args 0 [.ref (w.2.1 + 97), .int x1, .int x2]) [] S r := by
  show ES l w g M_X5_addPut 0 [(0, .ref (w.2.1 + 97)), (1, .int x1), (2, .int x2)] [] S r
  unfold f_X5_addPut at hf
  refine es_l (pc' := 1) (ls' := [(0, .ref (w.2.1 + 97)), (1, .int x1), (2, .int x2)]) (st' := [.ref (w.2.1 + 97)]) (fun _ _ k => e_aload_n dX5_addPut_0 0 rfl k) ?_
  refine es_get (v := .ref (w.2.1 + 100)) xc_5 dX5_addPut_1 fl_X5_23 (by decide) (by decide) (cel_97 _ _ _) rfl ?_
  refine es_l (pc' := 5) (ls' := [(0, .ref (w.2.1 + 97)), (1, .int x1), (2, .int x2)]) (st' := [.ref (w.2.1 + 97), .ref (w.2.1 + 100)]) (fun _ _ k => e_aload_n dX5_addPut_4 0 rfl k) ?_
  refine es_get (v := .int (S.1 97 6)) xc_5 dX5_addPut_5 fl_X5_39 (by decide) (by decide) (cel_97 _ _ _) rfl ?_
  refine es_l (pc' := 9) (ls' := [(0, .ref (w.2.1 + 97)), (1, .int x1), (2, .int x2)]) (st' := [.int x1, .int (S.1 97 6), .ref (w.2.1 + 100)]) (fun _ _ k => e_iload_n dX5_addPut_8 1 rfl k) ?_
  obtain ⟨g2, hf⟩ := xg hf
  refine es_iast dX5_addPut_9 (by decide) (cel_100 _) g2 ?_
  refine es_l (pc' := 11) (ls' := [(0, .ref (w.2.1 + 97)), (1, .int x1), (2, .int x2)]) (st' := [.ref (w.2.1 + 97)]) (fun _ _ k => e_aload_n dX5_addPut_10 0 rfl k) ?_
  refine es_get (v := .ref (w.2.1 + 101)) xc_5 dX5_addPut_11 fl_X5_27 (by decide) (by decide) (cel_97 _ _ _) rfl ?_
  refine es_l (pc' := 15) (ls' := [(0, .ref (w.2.1 + 97)), (1, .int x1), (2, .int x2)]) (st' := [.ref (w.2.1 + 97), .ref (w.2.1 + 101)]) (fun _ _ k => e_aload_n dX5_addPut_14 0 rfl k) ?_
  refine es_get (v := .int (S.1 97 6)) xc_5 dX5_addPut_15 fl_X5_39 (by decide) (by decide) (cel_97 _ _ _) rfl ?_
  refine es_l (pc' := 19) (ls' := [(0, .ref (w.2.1 + 97)), (1, .int x1), (2, .int x2)]) (st' := [.int x2, .int (S.1 97 6), .ref (w.2.1 + 101)]) (fun _ _ k => e_iload_n dX5_addPut_18 2 rfl k) ?_
  refine es_iast dX5_addPut_19 (by decide) (cel_101 _) g2 ?_
  refine es_l (pc' := 22) (ls' := [(0, .ref (w.2.1 + 97)), (1, .int x1), (2, .int x2)]) (st' := [.ref (w.2.1 + 97), .ref (w.2.1 + 97)]) (fun _ _ k => e_aload_n dX5_addPut_20 0 rfl (e_dup dX5_addPut_21 rfl k)) ?_
  refine es_get (v := .int (S.1 97 6)) xc_5 dX5_addPut_22 fl_X5_39 (by decide) (by decide) (cel_97 _ _ _) rfl ?_
  refine es_l (pc' := 27) (ls' := [(0, .ref (w.2.1 + 97)), (1, .int x1), (2, .int x2)]) (st' := [.int ((S.1 97 6) + 1), .ref (w.2.1 + 97)]) (fun _ _ k => e_iconst (v := 1) dX5_addPut_25 (by decide) (e_iadd dX5_addPut_26 k)) ?_
  refine es_put xc_5 dX5_addPut_27 fl_X5_39 (by decide) (by decide) (by decide) (cel_97 _ _ _) rfl rfl rfl rfl ?_
  exact es_return dX5_addPut_30 rfl hf
def f_X7_clear (N : Nat)  (S : xS) : Option xr :=
  some (.inl none, sI (sI S 405 4 0) 405 5 0)
set_option maxRecDepth 100000 in
set_option maxHeartbeats 4000000 in
theorem t_X7_clear {l : Launch} {w : xW} {g : Nat → xE} (N : Nat)  (S : xS) (r : xr) (hf : f_X7_clear N  S = some r) : ES l w g M_X7_clear 0 (lv_args 0 [.ref (w.2.1 + 405)]) [] S r := by
  show ES l w g M_X7_clear 0 [(0, .ref (w.2.1 + 405))] [] S r
  unfold f_X7_clear at hf
  refine es_l (pc' := 2) (ls' := [(0, .ref (w.2.1 + 405))]) (st' := [.int 0, .ref (w.2.1 + 405)]) (fun _ _ k => e_aload_n dX7_clear_0 0 rfl (e_iconst (v := 0) dX7_clear_1 (by decide) k)) ?_
  refine es_put xc_7 dX7_clear_2 fl_X7_27 (by decide) (by decide) (by decide) (cel_405 _ _ _) rfl rfl rfl rfl ?_
  refine es_l (pc' := 7) (ls' := [(0, .ref (w.2.1 + 405))]) (st' := [.int 0, .ref (w.2.1 + 405)]) (fun _ _ k => e_aload_n dX7_clear_5 0 rfl (e_iconst (v := 0) dX7_clear_6 (by decide) k)) ?_
  refine es_put xc_7 dX7_clear_7 fl_X7_31 (by decide) (by decide) (by decide) (cel_405 _ _ _) rfl rfl rfl rfl ?_
  exact es_return dX7_clear_10 rfl hf
def f_X6_field_27 (N : Nat)   (S : xS) : Option xr :=
  some (.inr "java/lang/IllegalArgumentException", sE S)
set_option maxRecDepth 100000 in
set_option maxHeartbeats 4000000 in
theorem t_X6_field_27 {l : Launch} {w : xW} {g : Nat → xE} (N : Nat)    (S : xS) (r : xr) (hf : f_X6_field_27 N   S = some r) : ES l w g M_X6_field 27 [] [] S r := by
  unfold f_X6_field_27 at hf
  exact es_throw (names := ["java/lang/RuntimeException", "java/lang/Exception"]) (by decide +kernel) (by decide +kernel) th_k_X6_89 th_i_IllegalArgumentException th_a_X6_89 th_g_X6_89 dX6_field_27 dX6_field_30 dX6_field_31 dX6_field_34 (by decide) (by decide) (by decide) hf
def f_X6_field_79 (N : Nat)   (S : xS) : Option xr :=
  some (.inr "java/lang/IllegalArgumentException", sE S)
set_option maxRecDepth 100000 in
set_option maxHeartbeats 4000000 in
theorem t_X6_field_79 {l : Launch} {w : xW} {g : Nat → xE} (N : Nat)    (S : xS) (r : xr) (hf : f_X6_field_79 N   S = some r) : ES l w g M_X6_field 79 [] [] S r := by
  unfold f_X6_field_79 at hf
  exact es_throw (names := ["java/lang/RuntimeException", "java/lang/Exception"]) (by decide +kernel) (by decide +kernel) th_k_X6_89 th_i_IllegalArgumentException th_a_X6_89 th_g_X6_89 dX6_field_79 dX6_field_82 dX6_field_83 dX6_field_86 (by decide) (by decide) (by decide) hf
def f_X6_field (N : Nat) (x1 : Int32) (x2 : Int32) (S : xS) : Option xr :=
  xcJ (f_X9_name N S) (fun v40 S39 =>
  if (lg_cmp v40 0) = 0 then
    f_X6_field_27 N S39
  else
    xcI (f_X3_field N x1 v40 S39) (fun v43 S42 =>
    if v43 = ((-1)) then
      xcV (f_X9_pass N S42) (fun S45 =>
      xcV (f_X9_take N 35 S45) (fun S47 =>
      xcI (f_X9_number N S47) (fun v50 S49 =>
      if v50 < 1 then
        f_X6_field_79 N S49
      else
        if 32 < v50 then
          f_X6_field_79 N S49
        else
          if v50 ≤ x2 then
            xcV (f_X9_pass N S49) (fun S54 =>
            xcV (f_X3_addField N x1 v40 v50 S54) (fun S56 =>
            some (.inl (some (.inl v50)), S56)
            )
            )
          else
            f_X6_field_79 N S49
      )
      )
      )
    else
      f_X6_field_27 N S42
    )
  )
set_option maxRecDepth 100000 in
set_option maxHeartbeats 4000000 in
theorem t_X6_field {l : Launch} {w : xW} {g : Nat → xE} (N : Nat) (x1 : Int32) (x2 : Int32) (S : xS) (r : xr) (hf : f_X6_field N x1 x2 S = some r) : ES l w g M_X6_field 0 (lv_args 0 [.ref (w.2.1 + 404), .int x1, .int x2]) [] S r := by
  show ES l w g M_X6_field 0 [(0, .ref (w.2.1 + 404)), (1, .int x1), (2, .int x2)] [] S r
  unfold f_X6_field at hf
  refine es_l (pc' := 1) (ls' := [(0, .ref (w.2.1 + 404)), (1, .int x1), (2, .int x2)]) (st' := [.ref (w.2.1 + 404)]) (fun _ _ k => e_aload_n dX6_field_0 0 rfl k) ?_
  refine es_get (v := .ref (w.2.1 + 1)) xc_6 dX6_field_1 fl_X6_9 (by decide) (by decide) (cel_404 _ _ _) rfl ?_
  refine es_callVJ (as := []) (rest := []) hf xc_9 dX6_field_4 cs_X6_field_X9_name ml_X6_98 im_X9_name se_X9_name rfl rfl (Nat.le_of_ble_eq_true rfl) (Nat.le_of_ble_eq_true rfl) (by decide) rfl (cel_1 _ _ _) (fun _ e => t_X9_name N  S _ e) (by decide) (fun v40 S39 hf => ?_)
  refine es_l (pc' := 11) (ls' := [(3, .long v40), (0, .ref (w.2.1 + 404)), (1, .int x1), (2, .int x2)]) (st' := [.int (lg_cmp v40 0)]) (fun _ _ k => e_lstore_n (ls' := [(3, .long v40), (0, .ref (w.2.1 + 404)), (1, .int x1), (2, .int x2)]) dX6_field_7 (by decide) rfl (e_lload_n dX6_field_8 0 rfl (e_lconst (v := 0) dX6_field_9 (by decide) (e_lcmp dX6_field_10 k)))) ?_
  refine es_br (c := (lg_cmp v40 0) = 0) (tgt := 27) (pf := 14) (st' := []) (fun _ _ a b => e_if_eq dX6_field_11 rfl a b) (fun c41 => ?_) (fun c41 => ?_)
  · rw [if_pos c41] at hf
    refine es_sub [] rfl ?_
    exact t_X6_field_27 N S39 r hf
  · rw [if_neg c41] at hf
    refine es_l (pc' := 15) (ls' := [(3, .long v40), (0, .ref (w.2.1 + 404)), (1, .int x1), (2, .int x2)]) (st' := [.ref (w.2.1 + 404)]) (fun _ _ k => e_aload_n dX6_field_14 1 rfl k) ?_
    refine es_get (v := .ref (w.2.1 + 7)) xc_6 dX6_field_15 fl_X6_15 (by decide) (by decide) (cel_404 _ _ _) rfl ?_
    refine es_l (pc' := 20) (ls' := [(3, .long v40), (0, .ref (w.2.1 + 404)), (1, .int x1), (2, .int x2)]) (st' := [.long v40, .int x1, .ref (w.2.1 + 7)]) (fun _ _ k => e_iload_n dX6_field_18 2 rfl (e_lload_n dX6_field_19 0 rfl k)) ?_
    refine es_callVI (as := [.int x1, .long v40]) (rest := []) hf xc_3 dX6_field_20 cs_X6_field_X3_field ml_X6_126 im_X3_field se_X3_field rfl rfl (Nat.le_of_ble_eq_true rfl) (Nat.le_of_ble_eq_true rfl) (by decide) rfl (cel_7 _ _ _) (fun _ e => t_X3_field N x1 v40 S39 _ e) (by decide) (fun v43 S42 hf => ?_)
    refine es_l (pc' := 24) (ls' := [(3, .long v40), (0, .ref (w.2.1 + 404)), (1, .int x1), (2, .int x2)]) (st' := [.int ((-1)), .int v43]) (fun _ _ k => e_iconst (v := (-1)) dX6_field_23 (by decide) k) ?_
    refine es_br (c := v43 = ((-1))) (tgt := 35) (pf := 27) (st' := []) (fun _ _ a b => e_icmp_eq dX6_field_24 rfl a b) (fun c44 => ?_) (fun c44 => ?_)
    · rw [if_pos c44] at hf
      refine es_l (pc' := 36) (ls' := [(3, .long v40), (0, .ref (w.2.1 + 404)), (1, .int x1), (2, .int x2)]) (st' := [.ref (w.2.1 + 404)]) (fun _ _ k => e_aload_n dX6_field_35 1 rfl k) ?_
      refine es_get (v := .ref (w.2.1 + 1)) xc_6 dX6_field_36 fl_X6_9 (by decide) (by decide) (cel_404 _ _ _) rfl ?_
      refine es_callVV (as := []) (rest := []) hf xc_9 dX6_field_39 cs_X6_field_X9_pass ml_X6_95 im_X9_pass se_X9_pass rfl rfl (Nat.le_of_ble_eq_true rfl) (Nat.le_of_ble_eq_true rfl) (by decide) rfl (cel_1 _ _ _) (fun _ e => t_X9_pass N  S42 _ e) (by decide) (fun S45 hf => ?_)
      refine es_l (pc' := 43) (ls' := [(3, .long v40), (0, .ref (w.2.1 + 404)), (1, .int x1), (2, .int x2)]) (st' := [.ref (w.2.1 + 404)]) (fun _ _ k => e_aload_n dX6_field_42 1 rfl k) ?_
      refine es_get (v := .ref (w.2.1 + 1)) xc_6 dX6_field_43 fl_X6_9 (by decide) (by decide) (cel_404 _ _ _) rfl ?_
      refine es_l (pc' := 48) (ls' := [(3, .long v40), (0, .ref (w.2.1 + 404)), (1, .int x1), (2, .int x2)]) (st' := [.int 35, .ref (w.2.1 + 1)]) (fun _ _ k => e_bipush (v := 35) dX6_field_46 (by decide) k) ?_
      refine es_callVV (as := [.int 35]) (rest := []) hf xc_9 dX6_field_48 cs_X6_field_X9_take ml_X6_122 im_X9_take se_X9_take rfl rfl (Nat.le_of_ble_eq_true rfl) (Nat.le_of_ble_eq_true rfl) (by decide) rfl (cel_1 _ _ _) (fun _ e => t_X9_take N 35 S45 _ e) (by decide) (fun S47 hf => ?_)
      refine es_l (pc' := 52) (ls' := [(3, .long v40), (0, .ref (w.2.1 + 404)), (1, .int x1), (2, .int x2)]) (st' := [.ref (w.2.1 + 404)]) (fun _ _ k => e_aload_n dX6_field_51 1 rfl k) ?_
      refine es_get (v := .ref (w.2.1 + 1)) xc_6 dX6_field_52 fl_X6_9 (by decide) (by decide) (cel_404 _ _ _) rfl ?_
      refine es_callVI (as := []) (rest := []) hf xc_9 dX6_field_55 cs_X6_field_X9_number ml_X6_129 im_X9_number se_X9_number rfl rfl (Nat.le_of_ble_eq_true rfl) (Nat.le_of_ble_eq_true rfl) (by decide) rfl (cel_1 _ _ _) (fun _ e => t_X9_number N  S47 _ e) (by decide) (fun v50 S49 hf => ?_)
      refine es_l (pc' := 63) (ls' := [(5, .int v50), (3, .long v40), (0, .ref (w.2.1 + 404)), (1, .int x1), (2, .int x2)]) (st' := [.int 1, .int v50]) (fun _ _ k => e_istore (ls' := [(5, .int v50), (3, .long v40), (0, .ref (w.2.1 + 404)), (1, .int x1), (2, .int x2)]) dX6_field_58 (by decide) rfl (e_iload dX6_field_60 0 rfl (e_iconst (v := 1) dX6_field_62 (by decide) k))) ?_
      refine es_br (c := v50 < 1) (tgt := 79) (pf := 66) (st' := []) (fun _ _ a b => e_icmp_lt dX6_field_63 rfl a b) (fun c51 => ?_) (fun c51 => ?_)
      · rw [if_pos c51] at hf
        refine es_sub [] rfl ?_
        exact t_X6_field_79 N S49 r hf
      · rw [if_neg c51] at hf
        refine es_l (pc' := 70) (ls' := [(5, .int v50), (3, .long v40), (0, .ref (w.2.1 + 404)), (1, .int x1), (2, .int x2)]) (st' := [.int 32, .int v50]) (fun _ _ k => e_iload dX6_field_66 0 rfl (e_bipush (v := 32) dX6_field_68 (by decide) k)) ?_
        refine es_br (c := 32 < v50) (tgt := 79) (pf := 73) (st' := []) (fun _ _ a b => e_icmp_gt dX6_field_70 rfl a b) (fun c52 => ?_) (fun c52 => ?_)
        · rw [if_pos c52] at hf
          refine es_sub [] rfl ?_
          exact t_X6_field_79 N S49 r hf
        · rw [if_neg c52] at hf
          refine es_l (pc' := 76) (ls' := [(5, .int v50), (3, .long v40), (0, .ref (w.2.1 + 404)), (1, .int x1), (2, .int x2)]) (st' := [.int x2, .int v50]) (fun _ _ k => e_iload dX6_field_73 0 rfl (e_iload_n dX6_field_75 4 rfl k)) ?_
          refine es_br (c := v50 ≤ x2) (tgt := 87) (pf := 79) (st' := []) (fun _ _ a b => e_icmp_le dX6_field_76 rfl a b) (fun c53 => ?_) (fun c53 => ?_)
          · rw [if_pos c53] at hf
            refine es_l (pc' := 88) (ls' := [(5, .int v50), (3, .long v40), (0, .ref (w.2.1 + 404)), (1, .int x1), (2, .int x2)]) (st' := [.ref (w.2.1 + 404)]) (fun _ _ k => e_aload_n dX6_field_87 2 rfl k) ?_
            refine es_get (v := .ref (w.2.1 + 1)) xc_6 dX6_field_88 fl_X6_9 (by decide) (by decide) (cel_404 _ _ _) rfl ?_
            refine es_callVV (as := []) (rest := []) hf xc_9 dX6_field_91 cs_X6_field_X9_pass ml_X6_95 im_X9_pass se_X9_pass rfl rfl (Nat.le_of_ble_eq_true rfl) (Nat.le_of_ble_eq_true rfl) (by decide) rfl (cel_1 _ _ _) (fun _ e => t_X9_pass N  S49 _ e) (by decide) (fun S54 hf => ?_)
            refine es_l (pc' := 95) (ls' := [(5, .int v50), (3, .long v40), (0, .ref (w.2.1 + 404)), (1, .int x1), (2, .int x2)]) (st' := [.ref (w.2.1 + 404)]) (fun _ _ k => e_aload_n dX6_field_94 2 rfl k) ?_
            refine es_get (v := .ref (w.2.1 + 7)) xc_6 dX6_field_95 fl_X6_15 (by decide) (by decide) (cel_404 _ _ _) rfl ?_
            refine es_l (pc' := 102) (ls' := [(5, .int v50), (3, .long v40), (0, .ref (w.2.1 + 404)), (1, .int x1), (2, .int x2)]) (st' := [.int v50, .long v40, .int x1, .ref (w.2.1 + 7)]) (fun _ _ k => e_iload_n dX6_field_98 3 rfl (e_lload_n dX6_field_99 1 rfl (e_iload dX6_field_100 0 rfl k))) ?_
            refine es_callVV (as := [.int x1, .long v40, .int v50]) (rest := []) hf xc_3 dX6_field_102 cs_X6_field_X3_addField ml_X6_132 im_X3_addField se_X3_addField rfl rfl (Nat.le_of_ble_eq_true rfl) (Nat.le_of_ble_eq_true rfl) (by decide) rfl (cel_7 _ _ _) (fun _ e => t_X3_addField N x1 v40 v50 S54 _ e) (by decide) (fun S56 hf => ?_)
            refine es_l (pc' := 107) (ls' := [(5, .int v50), (3, .long v40), (0, .ref (w.2.1 + 404)), (1, .int x1), (2, .int x2)]) (st' := [.int v50]) (fun _ _ k => e_iload dX6_field_105 0 rfl k) ?_
            exact es_ireturn (ty := .int) dX6_field_107 rfl rfl hf
          · rw [if_neg c53] at hf
            refine es_sub [] rfl ?_
            exact t_X6_field_79 N S49 r hf
    · rw [if_neg c44] at hf
      refine es_sub [] rfl ?_
      exact t_X6_field_27 N S42 r hf
def f_X6_kind_149 (N : Nat)   (S : xS) : Option xr :=
  xcV (f_X9_take N 34 S) (fun S57 =>
  some (.inl none, S57)
  )
set_option maxRecDepth 100000 in
set_option maxHeartbeats 4000000 in
theorem t_X6_kind_149 {l : Launch} {w : xW} {g : Nat → xE} (N : Nat)    (S : xS) (r : xr) (hf : f_X6_kind_149 N   S = some r) : ES l w g M_X6_kind 149 [(0, .ref (w.2.1 + 404))] [] S r := by
  unfold f_X6_kind_149 at hf
  refine es_l (pc' := 150) (ls' := [(0, .ref (w.2.1 + 404))]) (st' := [.ref (w.2.1 + 404)]) (fun _ _ k => e_aload_n dX6_kind_149 0 rfl k) ?_
  refine es_get (v := .ref (w.2.1 + 1)) xc_6 dX6_kind_150 fl_X6_9 (by decide) (by decide) (cel_404 _ _ _) rfl ?_
  refine es_l (pc' := 155) (ls' := [(0, .ref (w.2.1 + 404))]) (st' := [.int 34, .ref (w.2.1 + 1)]) (fun _ _ k => e_bipush (v := 34) dX6_kind_153 (by decide) k) ?_
  refine es_callVV (as := [.int 34]) (rest := []) hf xc_9 dX6_kind_155 cs_X6_kind_X9_take ml_X6_122 im_X9_take se_X9_take rfl rfl (Nat.le_of_ble_eq_true rfl) (Nat.le_of_ble_eq_true rfl) (by decide) rfl (cel_1 _ _ _) (fun _ e => t_X9_take N 34 S _ e) (by decide) (fun S57 hf => ?_)
  exact es_return dX6_kind_158 rfl hf
def f_X6_kind_127 (N : Nat) (k103 : Int32 → Int32 → Int32 → xS → Option xr) (x4 : Int32) (x5 : Int32) (x6 : Int32) (S : xS) : Option xr :=
  xcI (f_X6_field N x4 (84 - x5) S) (fun v60 S59 =>
  k103 x4 (x5 + v60) (x6 + 1) S59
  )
set_option maxRecDepth 100000 in
set_option maxHeartbeats 4000000 in
theorem t_X6_kind_127 {l : Launch} {w : xW} {g : Nat → xE} (N : Nat) (k103 : Int32 → Int32 → Int32 → xS → Option xr) (hk103 : ∀ (x4 : Int32) (x5 : Int32) (x6 : Int32) (S : xS) (r : xr), k103 x4 x5 x6 S = some r → ES l w g M_X6_kind 103 [(0, .ref (w.2.1 + 404)), (4, .int x4), (5, .int x5), (6, .int x6)] [] S r) (x4 : Int32) (x5 : Int32) (x6 : Int32) (S : xS) (r : xr) (hf : f_X6_kind_127 N k103 x4 x5 x6 S = some r) : ES l w g M_X6_kind 127 [(0, .ref (w.2.1 + 404)), (4, .int x4), (5, .int x5), (6, .int x6)] [] S r := by
  unfold f_X6_kind_127 at hf
  refine es_l (pc' := 137) (ls' := [(0, .ref (w.2.1 + 404)), (4, .int x4), (5, .int x5), (6, .int x6)]) (st' := [.int (84 - x5), .int x4, .ref (w.2.1 + 404), .int x5]) (fun _ _ k => e_iload dX6_kind_127 2 rfl (e_aload_n dX6_kind_129 0 rfl (e_iload dX6_kind_130 1 rfl (e_bipush (v := 84) dX6_kind_132 (by decide) (e_iload dX6_kind_134 2 rfl (e_isub dX6_kind_136 k)))))) ?_
  refine es_callVI (as := [.int x4, .int (84 - x5)]) (rest := [.int x5]) hf xc_6 dX6_kind_137 cs_X6_kind_X6_field ml_X6_118 im_X6_field se_X6_field rfl rfl (Nat.le_of_ble_eq_true rfl) (Nat.le_of_ble_eq_true rfl) (by decide) rfl (cel_404 _ _ _) (fun _ e => t_X6_field N x4 (84 - x5) S _ e) (by decide) (fun v60 S59 hf => ?_)
  refine es_l (pc' := 103) (ls' := [(6, .int (x6 + 1)), (5, .int (x5 + v60)), (0, .ref (w.2.1 + 404)), (4, .int x4)]) (st' := []) (fun _ _ k => e_iadd dX6_kind_140 (e_istore (ls' := [(5, .int (x5 + v60)), (0, .ref (w.2.1 + 404)), (4, .int x4), (6, .int x6)]) dX6_kind_141 (by decide) rfl (e_iinc (v := x6 + 1) (ls' := [(6, .int (x6 + 1)), (5, .int (x5 + v60)), (0, .ref (w.2.1 + 404)), (4, .int x4)]) dX6_kind_143 3 rfl rfl (by decide) rfl (e_goto (tgt := 103) dX6_kind_146 rfl k)))) ?_
  refine es_sub [2, 3, 1, 0] rfl ?_
  exact hk103 x4 (x5 + v60) (x6 + 1) S59 r hf
def f_X6_kind_103 (N : Nat)  : Nat → Int32 → Int32 → Int32 → xS → Option xr
  | 0, _, _, _, _ => none
  | n + 1, x4, x5, x6, S =>
  if 6 ≤ x6 then
    f_X6_kind_149 N S
  else
    if x6 = 0 then
      f_X6_kind_127 N (f_X6_kind_103 N n) x4 x5 x6 S
    else
      xcI (f_X9_passed N 33 S) (fun v64 S63 =>
      if v64 = 0 then
        f_X6_kind_149 N S63
      else
        f_X6_kind_127 N (f_X6_kind_103 N n) x4 x5 x6 S63
      )
set_option maxRecDepth 100000 in
set_option maxHeartbeats 4000000 in
theorem t_X6_kind_103 {l : Launch} {w : xW} {g : Nat → xE} (N : Nat)   : ∀ (n : Nat) (x4 : Int32) (x5 : Int32) (x6 : Int32) (S : xS) (r : xr), f_X6_kind_103 N  n x4 x5 x6 S = some r → ES l w g M_X6_kind 103 [(0, .ref (w.2.1 + 404)), (4, .int x4), (5, .int x5), (6, .int x6)] [] S r := by
  intro n
  induction n with
  | zero => intro x4 x5 x6 S r hf; cases hf
  | succ n ih =>
    intro x4 x5 x6 S r hf
    rw [f_X6_kind_103.eq_2] at hf
    refine es_l (pc' := 107) (ls' := [(0, .ref (w.2.1 + 404)), (4, .int x4), (5, .int x5), (6, .int x6)]) (st' := [.int 6, .int x6]) (fun _ _ k => e_iload dX6_kind_103 3 rfl (e_bipush (v := 6) dX6_kind_105 (by decide) k)) ?_
    refine es_br (c := 6 ≤ x6) (tgt := 149) (pf := 110) (st' := []) (fun _ _ a b => e_icmp_ge dX6_kind_107 rfl a b) (fun c61 => ?_) (fun c61 => ?_)
    · rw [if_pos c61] at hf
      refine es_sub [0] rfl ?_
      exact t_X6_kind_149 N S r hf
    · rw [if_neg c61] at hf
      refine es_l (pc' := 112) (ls' := [(0, .ref (w.2.1 + 404)), (4, .int x4), (5, .int x5), (6, .int x6)]) (st' := [.int x6]) (fun _ _ k => e_iload dX6_kind_110 3 rfl k) ?_
      refine es_br (c := x6 = 0) (tgt := 127) (pf := 115) (st' := []) (fun _ _ a b => e_if_eq dX6_kind_112 rfl a b) (fun c62 => ?_) (fun c62 => ?_)
      · rw [if_pos c62] at hf
        exact t_X6_kind_127 N (f_X6_kind_103 N n) ih x4 x5 x6 S r hf
      · rw [if_neg c62] at hf
        refine es_l (pc' := 116) (ls' := [(0, .ref (w.2.1 + 404)), (4, .int x4), (5, .int x5), (6, .int x6)]) (st' := [.ref (w.2.1 + 404)]) (fun _ _ k => e_aload_n dX6_kind_115 0 rfl k) ?_
        refine es_get (v := .ref (w.2.1 + 1)) xc_6 dX6_kind_116 fl_X6_9 (by decide) (by decide) (cel_404 _ _ _) rfl ?_
        refine es_l (pc' := 121) (ls' := [(0, .ref (w.2.1 + 404)), (4, .int x4), (5, .int x5), (6, .int x6)]) (st' := [.int 33, .ref (w.2.1 + 1)]) (fun _ _ k => e_bipush (v := 33) dX6_kind_119 (by decide) k) ?_
        refine es_callVI (as := [.int 33]) (rest := []) hf xc_9 dX6_kind_121 cs_X6_kind_X9_passed ml_X6_114 im_X9_passed se_X9_passed rfl rfl (Nat.le_of_ble_eq_true rfl) (Nat.le_of_ble_eq_true rfl) (by decide) rfl (cel_1 _ _ _) (fun _ e => t_X9_passed N 33 S _ e) (by decide) (fun v64 S63 hf => ?_)
        refine es_br (c := v64 = 0) (tgt := 149) (pf := 127) (st' := []) (fun _ _ a b => e_if_eq dX6_kind_124 rfl a b) (fun c65 => ?_) (fun c65 => ?_)
        · rw [if_pos c65] at hf
          refine es_sub [0] rfl ?_
          exact t_X6_kind_149 N S63 r hf
        · rw [if_neg c65] at hf
          exact t_X6_kind_127 N (f_X6_kind_103 N n) ih x4 x5 x6 S63 r hf
def f_X6_kind_75 (N : Nat)  (s0 : Int32) (S : xS) : Option xr :=
  if s0 = 0 then
    some (.inr "java/lang/IllegalArgumentException", sE S)
  else
    xcV (f_X9_pass N S) (fun S67 =>
    f_X6_kind_103 N N s0 0 0 S67
    )
set_option maxRecDepth 100000 in
set_option maxHeartbeats 4000000 in
theorem t_X6_kind_75 {l : Launch} {w : xW} {g : Nat → xE} (N : Nat)   (s0 : Int32) (S : xS) (r : xr) (hf : f_X6_kind_75 N  s0 S = some r) : ES l w g M_X6_kind 75 [(0, .ref (w.2.1 + 404))] [.int s0] S r := by
  unfold f_X6_kind_75 at hf
  refine es_l (pc' := 79) (ls' := [(4, .int s0), (0, .ref (w.2.1 + 404))]) (st' := [.int s0]) (fun _ _ k => e_istore (ls' := [(4, .int s0), (0, .ref (w.2.1 + 404))]) dX6_kind_75 (by decide) rfl (e_iload dX6_kind_77 0 rfl k)) ?_
  refine es_br (c := s0 = 0) (tgt := 82) (pf := 90) (st' := []) (fun _ _ a b => e_if_ne dX6_kind_79 rfl b a) (fun c66 => ?_) (fun c66 => ?_)
  · rw [if_pos c66] at hf
    exact es_throw (names := ["java/lang/RuntimeException", "java/lang/Exception"]) (by decide +kernel) (by decide +kernel) th_k_X6_89 th_i_IllegalArgumentException th_a_X6_89 th_g_X6_89 dX6_kind_82 dX6_kind_85 dX6_kind_86 dX6_kind_89 (by decide) (by decide) (by decide) hf
  · rw [if_neg c66] at hf
    refine es_l (pc' := 91) (ls' := [(4, .int s0), (0, .ref (w.2.1 + 404))]) (st' := [.ref (w.2.1 + 404)]) (fun _ _ k => e_aload_n dX6_kind_90 1 rfl k) ?_
    refine es_get (v := .ref (w.2.1 + 1)) xc_6 dX6_kind_91 fl_X6_9 (by decide) (by decide) (cel_404 _ _ _) rfl ?_
    refine es_callVV (as := []) (rest := []) hf xc_9 dX6_kind_94 cs_X6_kind_X9_pass ml_X6_95 im_X9_pass se_X9_pass rfl rfl (Nat.le_of_ble_eq_true rfl) (Nat.le_of_ble_eq_true rfl) (by decide) rfl (cel_1 _ _ _) (fun _ e => t_X9_pass N  S _ e) (by decide) (fun S67 hf => ?_)
    refine es_l (pc' := 103) (ls' := [(6, .int 0), (5, .int 0), (4, .int s0), (0, .ref (w.2.1 + 404))]) (st' := []) (fun _ _ k => e_iconst (v := 0) dX6_kind_97 (by decide) (e_istore (ls' := [(5, .int 0), (4, .int s0), (0, .ref (w.2.1 + 404))]) dX6_kind_98 (by decide) rfl (e_iconst (v := 0) dX6_kind_100 (by decide) (e_istore (ls' := [(6, .int 0), (5, .int 0), (4, .int s0), (0, .ref (w.2.1 + 404))]) dX6_kind_101 (by decide) rfl k)))) ?_
    refine es_sub [3, 2, 1, 0] rfl ?_
    exact t_X6_kind_103 N N s0 0 0 S67 r hf
def f_X6_kind_58 (N : Nat)  (y1 : Int64) (s0 : Int32) (S : xS) : Option xr :=
  if s0 = 0 then
    f_X6_kind_75 N 0 S
  else
    xcI (f_X3_addKind N y1 S) (fun v71 S70 =>
    f_X6_kind_75 N v71 S70
    )
set_option maxRecDepth 100000 in
set_option maxHeartbeats 4000000 in
theorem t_X6_kind_58 {l : Launch} {w : xW} {g : Nat → xE} (N : Nat)   (y1 : Int64) (s0 : Int32) (S : xS) (r : xr) (hf : f_X6_kind_58 N  y1 s0 S = some r) : ES l w g M_X6_kind 58 [(0, .ref (w.2.1 + 404)), (1, .long y1)] [.int s0] S r := by
  unfold f_X6_kind_58 at hf
  refine es_l (pc' := 60) (ls' := [(3, .int s0), (0, .ref (w.2.1 + 404)), (1, .long y1)]) (st' := [.int s0]) (fun _ _ k => e_istore_n (ls' := [(3, .int s0), (0, .ref (w.2.1 + 404)), (1, .long y1)]) dX6_kind_58 (by decide) rfl (e_iload_n dX6_kind_59 0 rfl k)) ?_
  refine es_br (c := s0 = 0) (tgt := 74) (pf := 63) (st' := []) (fun _ _ a b => e_if_eq dX6_kind_60 rfl a b) (fun c69 => ?_) (fun c69 => ?_)
  · rw [if_pos c69] at hf
    refine es_l (pc' := 75) (ls' := [(3, .int s0), (0, .ref (w.2.1 + 404)), (1, .long y1)]) (st' := [.int 0]) (fun _ _ k => e_iconst (v := 0) dX6_kind_74 (by decide) k) ?_
    refine es_sub [1] rfl ?_
    exact t_X6_kind_75 N 0 S r hf
  · rw [if_neg c69] at hf
    refine es_l (pc' := 64) (ls' := [(3, .int s0), (0, .ref (w.2.1 + 404)), (1, .long y1)]) (st' := [.ref (w.2.1 + 404)]) (fun _ _ k => e_aload_n dX6_kind_63 1 rfl k) ?_
    refine es_get (v := .ref (w.2.1 + 7)) xc_6 dX6_kind_64 fl_X6_15 (by decide) (by decide) (cel_404 _ _ _) rfl ?_
    refine es_l (pc' := 68) (ls' := [(3, .int s0), (0, .ref (w.2.1 + 404)), (1, .long y1)]) (st' := [.long y1, .ref (w.2.1 + 7)]) (fun _ _ k => e_lload_n dX6_kind_67 2 rfl k) ?_
    refine es_callVI (as := [.long y1]) (rest := []) hf xc_3 dX6_kind_68 cs_X6_kind_X3_addKind ml_X6_110 im_X3_addKind se_X3_addKind rfl rfl (Nat.le_of_ble_eq_true rfl) (Nat.le_of_ble_eq_true rfl) (by decide) rfl (cel_7 _ _ _) (fun _ e => t_X3_addKind N y1 S _ e) (by decide) (fun v71 S70 hf => ?_)
    refine es_l (pc' := 75) (ls' := [(3, .int s0), (0, .ref (w.2.1 + 404)), (1, .long y1)]) (st' := [.int v71]) (fun _ _ k => e_goto (tgt := 75) dX6_kind_71 rfl k) ?_
    refine es_sub [1] rfl ?_
    exact t_X6_kind_75 N v71 S70 r hf
def f_X6_kind_57 (N : Nat)  (y1 : Int64) (S : xS) : Option xr :=
  f_X6_kind_58 N y1 0 S
set_option maxRecDepth 100000 in
set_option maxHeartbeats 4000000 in
theorem t_X6_kind_57 {l : Launch} {w : xW} {g : Nat → xE} (N : Nat)   (y1 : Int64) (S : xS) (r : xr) (hf : f_X6_kind_57 N  y1 S = some r) : ES l w g M_X6_kind 57 [(0, .ref (w.2.1 + 404)), (1, .long y1)] [] S r := by
  unfold f_X6_kind_57 at hf
  refine es_l (pc' := 58) (ls' := [(0, .ref (w.2.1 + 404)), (1, .long y1)]) (st' := [.int 0]) (fun _ _ k => e_iconst (v := 0) dX6_kind_57 (by decide) k) ?_
  exact t_X6_kind_58 N y1 0 S r hf
def f_X6_kind (N : Nat)  (S : xS) : Option xr :=
  xcR (f_X5_addStep N 1 S) (fun v73 S72 =>
  xcV (f_X9_pass N S72) (fun S74 =>
  xcJ (f_X9_name N S74) (fun v77 S76 =>
  if (lg_cmp v77 0) = 0 then
    f_X6_kind_57 N v77 S76
  else
    xcI (f_X3_kind N v77 S76) (fun v80 S79 =>
    if v80 = 0 then
      xcI (f_X3_variable N v77 S79) (fun v83 S82 =>
      if v83 = ((-1)) then
        f_X6_kind_58 N v77 1 S82
      else
        f_X6_kind_57 N v77 S82
      )
    else
      f_X6_kind_57 N v77 S79
    )
  )
  )
  )
set_option maxRecDepth 100000 in
set_option maxHeartbeats 4000000 in
theorem t_X6_kind {l : Launch} {w : xW} {g : Nat → xE} (N : Nat)  (S : xS) (r : xr) (hf : f_X6_kind N  S = some r) : ES l w g M_X6_kind 0 (lv_args 0 [.ref (w.2.1 + 404)]) [] S r := by
  show ES l w g M_X6_kind 0 [(0, .ref (w.2.1 + 404))] [] S r
  unfold f_X6_kind at hf
  refine es_l (pc' := 1) (ls' := [(0, .ref (w.2.1 + 404))]) (st' := [.ref (w.2.1 + 404)]) (fun _ _ k => e_aload_n dX6_kind_0 0 rfl k) ?_
  refine es_get (v := .ref (w.2.1 + 97)) xc_6 dX6_kind_1 fl_X6_19 (by decide) (by decide) (cel_404 _ _ _) rfl ?_
  refine es_l (pc' := 5) (ls' := [(0, .ref (w.2.1 + 404))]) (st' := [.int 1, .ref (w.2.1 + 97)]) (fun _ _ k => e_iconst (v := 1) dX6_kind_4 (by decide) k) ?_
  refine es_callVR (as := [.int 1]) (rest := []) hf xc_5 dX6_kind_5 cs_X6_kind_X5_addStep ml_X6_91 im_X5_addStep se_X5_addStep rfl rfl (Nat.le_of_ble_eq_true rfl) (Nat.le_of_ble_eq_true rfl) (by decide) rfl (cel_97 _ _ _) (fun _ e => t_X5_addStep N 1 S _ e) (by decide) (fun v73 S72 hf => ?_)
  refine es_l (pc' := 10) (ls' := [(0, .ref (w.2.1 + 404))]) (st' := [.ref (w.2.1 + 404)]) (fun _ _ k => e_pop dX6_kind_8 rfl (e_aload_n dX6_kind_9 0 rfl k)) ?_
  refine es_get (v := .ref (w.2.1 + 1)) xc_6 dX6_kind_10 fl_X6_9 (by decide) (by decide) (cel_404 _ _ _) rfl ?_
  refine es_callVV (as := []) (rest := []) hf xc_9 dX6_kind_13 cs_X6_kind_X9_pass ml_X6_95 im_X9_pass se_X9_pass rfl rfl (Nat.le_of_ble_eq_true rfl) (Nat.le_of_ble_eq_true rfl) (by decide) rfl (cel_1 _ _ _) (fun _ e => t_X9_pass N  S72 _ e) (by decide) (fun S74 hf => ?_)
  refine es_l (pc' := 17) (ls' := [(0, .ref (w.2.1 + 404))]) (st' := [.ref (w.2.1 + 404)]) (fun _ _ k => e_aload_n dX6_kind_16 0 rfl k) ?_
  refine es_get (v := .ref (w.2.1 + 1)) xc_6 dX6_kind_17 fl_X6_9 (by decide) (by decide) (cel_404 _ _ _) rfl ?_
  refine es_callVJ (as := []) (rest := []) hf xc_9 dX6_kind_20 cs_X6_kind_X9_name ml_X6_98 im_X9_name se_X9_name rfl rfl (Nat.le_of_ble_eq_true rfl) (Nat.le_of_ble_eq_true rfl) (by decide) rfl (cel_1 _ _ _) (fun _ e => t_X9_name N  S74 _ e) (by decide) (fun v77 S76 hf => ?_)
  refine es_l (pc' := 27) (ls' := [(1, .long v77), (0, .ref (w.2.1 + 404))]) (st' := [.int (lg_cmp v77 0)]) (fun _ _ k => e_lstore_n (ls' := [(1, .long v77), (0, .ref (w.2.1 + 404))]) dX6_kind_23 (by decide) rfl (e_lload_n dX6_kind_24 0 rfl (e_lconst (v := 0) dX6_kind_25 (by decide) (e_lcmp dX6_kind_26 k)))) ?_
  refine es_br (c := (lg_cmp v77 0) = 0) (tgt := 57) (pf := 30) (st' := []) (fun _ _ a b => e_if_eq dX6_kind_27 rfl a b) (fun c78 => ?_) (fun c78 => ?_)
  · rw [if_pos c78] at hf
    refine es_sub [1, 0] rfl ?_
    exact t_X6_kind_57 N v77 S76 r hf
  · rw [if_neg c78] at hf
    refine es_l (pc' := 31) (ls' := [(1, .long v77), (0, .ref (w.2.1 + 404))]) (st' := [.ref (w.2.1 + 404)]) (fun _ _ k => e_aload_n dX6_kind_30 1 rfl k) ?_
    refine es_get (v := .ref (w.2.1 + 7)) xc_6 dX6_kind_31 fl_X6_15 (by decide) (by decide) (cel_404 _ _ _) rfl ?_
    refine es_l (pc' := 35) (ls' := [(1, .long v77), (0, .ref (w.2.1 + 404))]) (st' := [.long v77, .ref (w.2.1 + 7)]) (fun _ _ k => e_lload_n dX6_kind_34 0 rfl k) ?_
    refine es_callVI (as := [.long v77]) (rest := []) hf xc_3 dX6_kind_35 cs_X6_kind_X3_kind ml_X6_102 im_X3_kind se_X3_kind rfl rfl (Nat.le_of_ble_eq_true rfl) (Nat.le_of_ble_eq_true rfl) (by decide) rfl (cel_7 _ _ _) (fun _ e => t_X3_kind N v77 S76 _ e) (by decide) (fun v80 S79 hf => ?_)
    refine es_br (c := v80 = 0) (tgt := 41) (pf := 57) (st' := []) (fun _ _ a b => e_if_ne dX6_kind_38 rfl b a) (fun c81 => ?_) (fun c81 => ?_)
    · rw [if_pos c81] at hf
      refine es_l (pc' := 42) (ls' := [(1, .long v77), (0, .ref (w.2.1 + 404))]) (st' := [.ref (w.2.1 + 404)]) (fun _ _ k => e_aload_n dX6_kind_41 1 rfl k) ?_
      refine es_get (v := .ref (w.2.1 + 7)) xc_6 dX6_kind_42 fl_X6_15 (by decide) (by decide) (cel_404 _ _ _) rfl ?_
      refine es_l (pc' := 46) (ls' := [(1, .long v77), (0, .ref (w.2.1 + 404))]) (st' := [.long v77, .ref (w.2.1 + 7)]) (fun _ _ k => e_lload_n dX6_kind_45 0 rfl k) ?_
      refine es_callVI (as := [.long v77]) (rest := []) hf xc_3 dX6_kind_46 cs_X6_kind_X3_variable ml_X6_107 im_X3_variable se_X3_variable rfl rfl (Nat.le_of_ble_eq_true rfl) (Nat.le_of_ble_eq_true rfl) (by decide) rfl (cel_7 _ _ _) (fun _ e => t_X3_variable N v77 S79 _ e) (by decide) (fun v83 S82 hf => ?_)
      refine es_l (pc' := 50) (ls' := [(1, .long v77), (0, .ref (w.2.1 + 404))]) (st' := [.int ((-1)), .int v83]) (fun _ _ k => e_iconst (v := (-1)) dX6_kind_49 (by decide) k) ?_
      refine es_br (c := v83 = ((-1))) (tgt := 53) (pf := 57) (st' := []) (fun _ _ a b => e_icmp_ne dX6_kind_50 rfl b a) (fun c84 => ?_) (fun c84 => ?_)
      · rw [if_pos c84] at hf
        refine es_l (pc' := 58) (ls' := [(1, .long v77), (0, .ref (w.2.1 + 404))]) (st' := [.int 1]) (fun _ _ k => e_iconst (v := 1) dX6_kind_53 (by decide) (e_goto (tgt := 58) dX6_kind_54 rfl k)) ?_
        refine es_sub [1, 0] rfl ?_
        exact t_X6_kind_58 N v77 1 S82 r hf
      · rw [if_neg c84] at hf
        refine es_sub [1, 0] rfl ?_
        exact t_X6_kind_57 N v77 S82 r hf
    · rw [if_neg c81] at hf
      refine es_sub [1, 0] rfl ?_
      exact t_X6_kind_57 N v77 S79 r hf
def f_X6_puts_129 (N : Nat)  (a1 : Nat) (S : xS) : Option xr :=
  if xStep a1 then
  some (.inl none, sI S a1 8 (S.1 97 6))
  else none
set_option maxRecDepth 100000 in
set_option maxHeartbeats 4000000 in
theorem t_X6_puts_129 {l : Launch} {w : xW} {g : Nat → xE} (N : Nat)   (a1 : Nat) (S : xS) (r : xr) (hf : f_X6_puts_129 N  a1 S = some r) : ES l w g M_X6_puts 129 [(0, .ref (w.2.1 + 404)), (1, .ref (w.2.1 + a1))] [] S r := by
  unfold f_X6_puts_129 at hf
  refine es_l (pc' := 131) (ls' := [(0, .ref (w.2.1 + 404)), (1, .ref (w.2.1 + a1))]) (st' := [.ref (w.2.1 + 404), .ref (w.2.1 + a1)]) (fun _ _ k => e_aload_n dX6_puts_129 1 rfl (e_aload_n dX6_puts_130 0 rfl k)) ?_
  refine es_get (v := .ref (w.2.1 + 97)) xc_6 dX6_puts_131 fl_X6_19 (by decide) (by decide) (cel_404 _ _ _) rfl ?_
  refine es_get (v := .int (S.1 97 6)) xc_5 dX6_puts_134 fl_X6_157 (by decide) (by decide) (cel_97 _ _ _) rfl ?_
  obtain ⟨g45, hf⟩ := xg hf
  refine es_put xc_8 dX6_puts_137 fl_X6_166 (by decide) (by decide) (xStep_lt g45) (cel_st g45 _ _ _) rfl rfl rfl (by rw [cel_st g45]; rfl) ?_
  exact es_return dX6_puts_140 rfl hf
def f_X6_puts_75 (N : Nat)   (S : xS) : Option xr :=
  some (.inr "java/lang/IllegalArgumentException", sE S)
set_option maxRecDepth 100000 in
set_option maxHeartbeats 4000000 in
theorem t_X6_puts_75 {l : Launch} {w : xW} {g : Nat → xE} (N : Nat)    (S : xS) (r : xr) (hf : f_X6_puts_75 N   S = some r) : ES l w g M_X6_puts 75 [] [] S r := by
  unfold f_X6_puts_75 at hf
  exact es_throw (names := ["java/lang/RuntimeException", "java/lang/Exception"]) (by decide +kernel) (by decide +kernel) th_k_X6_89 th_i_IllegalArgumentException th_a_X6_89 th_g_X6_89 dX6_puts_75 dX6_puts_78 dX6_puts_79 dX6_puts_82 (by decide) (by decide) (by decide) hf
def f_X6_puts_40 (N : Nat) (k16 : Nat → Int32 → Int32 → Int32 → xS → Option xr) (a1 : Nat) (x2 : Int32) (x3 : Int32) (x4 : Int32) (S : xS) : Option xr :=
  if xStep a1 then
  xcJ (f_X9_name N S) (fun v48 S47 =>
  xcI (f_X3_field N (S.1 a1 1) v48 S47) (fun v50 S49 =>
  if v50 = ((-1)) then
    f_X6_puts_75 N S49
  else
    if (((x3.toUInt32 >>> (v50.toUInt32 &&& Int32.toUInt32 31)).toInt32) &&& 1) = 0 then
      xcV (f_X9_pass N S49) (fun S53 =>
      xcV (f_X9_take N 21 S53) (fun S55 =>
      xcI (f_X1_read N x2 S55) (fun v58 S57 =>
      xcV (f_X5_addPut N v50 v58 S57) (fun S59 =>
      k16 a1 x2 (x3 ||| (1 <<< (v50 &&& 31))) (x4 + 1) S59
      )
      )
      )
      )
    else
      f_X6_puts_75 N S49
  )
  )
  else none
set_option maxRecDepth 100000 in
set_option maxHeartbeats 4000000 in
theorem t_X6_puts_40 {l : Launch} {w : xW} {g : Nat → xE} (N : Nat) (k16 : Nat → Int32 → Int32 → Int32 → xS → Option xr) (hk16 : ∀ (a1 : Nat) (x2 : Int32) (x3 : Int32) (x4 : Int32) (S : xS) (r : xr), k16 a1 x2 x3 x4 S = some r → ES l w g M_X6_puts 16 [(0, .ref (w.2.1 + 404)), (1, .ref (w.2.1 + a1)), (2, .int x2), (3, .int x3), (4, .int x4)] [] S r) (a1 : Nat) (x2 : Int32) (x3 : Int32) (x4 : Int32) (S : xS) (r : xr) (hf : f_X6_puts_40 N k16 a1 x2 x3 x4 S = some r) : ES l w g M_X6_puts 40 [(0, .ref (w.2.1 + 404)), (1, .ref (w.2.1 + a1)), (2, .int x2), (3, .int x3), (4, .int x4)] [] S r := by
  unfold f_X6_puts_40 at hf
  refine es_l (pc' := 41) (ls' := [(0, .ref (w.2.1 + 404)), (1, .ref (w.2.1 + a1)), (2, .int x2), (3, .int x3), (4, .int x4)]) (st' := [.ref (w.2.1 + 404)]) (fun _ _ k => e_aload_n dX6_puts_40 0 rfl k) ?_
  refine es_get (v := .ref (w.2.1 + 7)) xc_6 dX6_puts_41 fl_X6_15 (by decide) (by decide) (cel_404 _ _ _) rfl ?_
  refine es_l (pc' := 45) (ls' := [(0, .ref (w.2.1 + 404)), (1, .ref (w.2.1 + a1)), (2, .int x2), (3, .int x3), (4, .int x4)]) (st' := [.ref (w.2.1 + a1), .ref (w.2.1 + 7)]) (fun _ _ k => e_aload_n dX6_puts_44 1 rfl k) ?_
  obtain ⟨g46, hf⟩ := xg hf
  refine es_get (v := .int (S.1 a1 1)) xc_8 dX6_puts_45 fl_X6_139 (by decide) (xStep_lt g46) (cel_st g46 _ _ _) rfl ?_
  refine es_l (pc' := 49) (ls' := [(0, .ref (w.2.1 + 404)), (1, .ref (w.2.1 + a1)), (2, .int x2), (3, .int x3), (4, .int x4)]) (st' := [.ref (w.2.1 + 404), .int (S.1 a1 1), .ref (w.2.1 + 7)]) (fun _ _ k => e_aload_n dX6_puts_48 0 rfl k) ?_
  refine es_get (v := .ref (w.2.1 + 1)) xc_6 dX6_puts_49 fl_X6_9 (by decide) (by decide) (cel_404 _ _ _) rfl ?_
  refine es_callVJ (as := []) (rest := [.int (S.1 a1 1), .ref (w.2.1 + 7)]) hf xc_9 dX6_puts_52 cs_X6_puts_X9_name ml_X6_98 im_X9_name se_X9_name rfl rfl (Nat.le_of_ble_eq_true rfl) (Nat.le_of_ble_eq_true rfl) (by decide) rfl (cel_1 _ _ _) (fun _ e => t_X9_name N  S _ e) (by decide) (fun v48 S47 hf => ?_)
  refine es_callVI (as := [.int (S.1 a1 1), .long v48]) (rest := []) hf xc_3 dX6_puts_55 cs_X6_puts_X3_field ml_X6_126 im_X3_field se_X3_field rfl rfl (Nat.le_of_ble_eq_true rfl) (Nat.le_of_ble_eq_true rfl) (by decide) rfl (cel_7 _ _ _) (fun _ e => t_X3_field N (S.1 a1 1) v48 S47 _ e) (by decide) (fun v50 S49 hf => ?_)
  refine es_l (pc' := 63) (ls' := [(5, .int v50), (0, .ref (w.2.1 + 404)), (1, .ref (w.2.1 + a1)), (2, .int x2), (3, .int x3), (4, .int x4)]) (st' := [.int ((-1)), .int v50]) (fun _ _ k => e_istore (ls' := [(5, .int v50), (0, .ref (w.2.1 + 404)), (1, .ref (w.2.1 + a1)), (2, .int x2), (3, .int x3), (4, .int x4)]) dX6_puts_58 (by decide) rfl (e_iload dX6_puts_60 0 rfl (e_iconst (v := (-1)) dX6_puts_62 (by decide) k))) ?_
  refine es_br (c := v50 = ((-1))) (tgt := 75) (pf := 66) (st' := []) (fun _ _ a b => e_icmp_eq dX6_puts_63 rfl a b) (fun c51 => ?_) (fun c51 => ?_)
  · rw [if_pos c51] at hf
    refine es_sub [] rfl ?_
    exact t_X6_puts_75 N S49 r hf
  · rw [if_neg c51] at hf
    refine es_l (pc' := 72) (ls' := [(5, .int v50), (0, .ref (w.2.1 + 404)), (1, .ref (w.2.1 + a1)), (2, .int x2), (3, .int x3), (4, .int x4)]) (st' := [.int (((x3.toUInt32 >>> (v50.toUInt32 &&& Int32.toUInt32 31)).toInt32) &&& 1)]) (fun _ _ k => e_iload_n dX6_puts_66 4 rfl (e_iload dX6_puts_67 0 rfl (e_iushr (v := (x3.toUInt32 >>> (v50.toUInt32 &&& Int32.toUInt32 31)).toInt32) dX6_puts_69 rfl (e_iconst (v := 1) dX6_puts_70 (by decide) (e_iand dX6_puts_71 k))))) ?_
    refine es_br (c := (((x3.toUInt32 >>> (v50.toUInt32 &&& Int32.toUInt32 31)).toInt32) &&& 1) = 0) (tgt := 83) (pf := 75) (st' := []) (fun _ _ a b => e_if_eq dX6_puts_72 rfl a b) (fun c52 => ?_) (fun c52 => ?_)
    · rw [if_pos c52] at hf
      refine es_l (pc' := 91) (ls' := [(3, .int (x3 ||| (1 <<< (v50 &&& 31)))), (5, .int v50), (0, .ref (w.2.1 + 404)), (1, .ref (w.2.1 + a1)), (2, .int x2), (4, .int x4)]) (st' := [.ref (w.2.1 + 404)]) (fun _ _ k => e_iload_n dX6_puts_83 4 rfl (e_iconst (v := 1) dX6_puts_84 (by decide) (e_iload dX6_puts_85 0 rfl (e_ishl dX6_puts_87 (e_ior dX6_puts_88 (e_istore_n (ls' := [(3, .int (x3 ||| (1 <<< (v50 &&& 31)))), (5, .int v50), (0, .ref (w.2.1 + 404)), (1, .ref (w.2.1 + a1)), (2, .int x2), (4, .int x4)]) dX6_puts_89 (by decide) rfl (e_aload_n dX6_puts_90 2 rfl k))))))) ?_
      refine es_get (v := .ref (w.2.1 + 1)) xc_6 dX6_puts_91 fl_X6_9 (by decide) (by decide) (cel_404 _ _ _) rfl ?_
      refine es_callVV (as := []) (rest := []) hf xc_9 dX6_puts_94 cs_X6_puts_X9_pass ml_X6_95 im_X9_pass se_X9_pass rfl rfl (Nat.le_of_ble_eq_true rfl) (Nat.le_of_ble_eq_true rfl) (by decide) rfl (cel_1 _ _ _) (fun _ e => t_X9_pass N  S49 _ e) (by decide) (fun S53 hf => ?_)
      refine es_l (pc' := 98) (ls' := [(3, .int (x3 ||| (1 <<< (v50 &&& 31)))), (5, .int v50), (0, .ref (w.2.1 + 404)), (1, .ref (w.2.1 + a1)), (2, .int x2), (4, .int x4)]) (st' := [.ref (w.2.1 + 404)]) (fun _ _ k => e_aload_n dX6_puts_97 2 rfl k) ?_
      refine es_get (v := .ref (w.2.1 + 1)) xc_6 dX6_puts_98 fl_X6_9 (by decide) (by decide) (cel_404 _ _ _) rfl ?_
      refine es_l (pc' := 103) (ls' := [(3, .int (x3 ||| (1 <<< (v50 &&& 31)))), (5, .int v50), (0, .ref (w.2.1 + 404)), (1, .ref (w.2.1 + a1)), (2, .int x2), (4, .int x4)]) (st' := [.int 21, .ref (w.2.1 + 1)]) (fun _ _ k => e_bipush (v := 21) dX6_puts_101 (by decide) k) ?_
      refine es_callVV (as := [.int 21]) (rest := []) hf xc_9 dX6_puts_103 cs_X6_puts_X9_take ml_X6_122 im_X9_take se_X9_take rfl rfl (Nat.le_of_ble_eq_true rfl) (Nat.le_of_ble_eq_true rfl) (by decide) rfl (cel_1 _ _ _) (fun _ e => t_X9_take N 21 S53 _ e) (by decide) (fun S55 hf => ?_)
      refine es_l (pc' := 107) (ls' := [(3, .int (x3 ||| (1 <<< (v50 &&& 31)))), (5, .int v50), (0, .ref (w.2.1 + 404)), (1, .ref (w.2.1 + a1)), (2, .int x2), (4, .int x4)]) (st' := [.ref (w.2.1 + 404)]) (fun _ _ k => e_aload_n dX6_puts_106 2 rfl k) ?_
      refine es_get (v := .ref (w.2.1 + 97)) xc_6 dX6_puts_107 fl_X6_19 (by decide) (by decide) (cel_404 _ _ _) rfl ?_
      refine es_l (pc' := 113) (ls' := [(3, .int (x3 ||| (1 <<< (v50 &&& 31)))), (5, .int v50), (0, .ref (w.2.1 + 404)), (1, .ref (w.2.1 + a1)), (2, .int x2), (4, .int x4)]) (st' := [.ref (w.2.1 + 404), .int v50, .ref (w.2.1 + 97)]) (fun _ _ k => e_iload dX6_puts_110 1 rfl (e_aload_n dX6_puts_112 2 rfl k)) ?_
      refine es_get (v := .ref (w.2.1 + 407)) xc_6 dX6_puts_113 fl_X6_37 (by decide) (by decide) (cel_404 _ _ _) rfl ?_
      refine es_l (pc' := 117) (ls' := [(3, .int (x3 ||| (1 <<< (v50 &&& 31)))), (5, .int v50), (0, .ref (w.2.1 + 404)), (1, .ref (w.2.1 + a1)), (2, .int x2), (4, .int x4)]) (st' := [.int x2, .ref (w.2.1 + 407), .int v50, .ref (w.2.1 + 97)]) (fun _ _ k => e_iload_n dX6_puts_116 4 rfl k) ?_
      refine es_callVI (as := [.int x2]) (rest := [.int v50, .ref (w.2.1 + 97)]) hf xc_1 dX6_puts_117 cs_X6_puts_X1_read ml_X6_154 im_X1_read se_X1_read rfl rfl (Nat.le_of_ble_eq_true rfl) (Nat.le_of_ble_eq_true rfl) (by decide) rfl (cel_407 _ _ _) (fun _ e => t_X1_read N x2 S55 _ e) (by decide) (fun v58 S57 hf => ?_)
      refine es_callVV (as := [.int v50, .int v58]) (rest := []) hf xc_5 dX6_puts_120 cs_X6_puts_X5_addPut ml_X6_162 im_X5_addPut se_X5_addPut rfl rfl (Nat.le_of_ble_eq_true rfl) (Nat.le_of_ble_eq_true rfl) (by decide) rfl (cel_97 _ _ _) (fun _ e => t_X5_addPut N v50 v58 S57 _ e) (by decide) (fun S59 hf => ?_)
      refine es_l (pc' := 16) (ls' := [(4, .int (x4 + 1)), (3, .int (x3 ||| (1 <<< (v50 &&& 31)))), (5, .int v50), (0, .ref (w.2.1 + 404)), (1, .ref (w.2.1 + a1)), (2, .int x2)]) (st' := []) (fun _ _ k => e_iinc (v := x4 + 1) (ls' := [(4, .int (x4 + 1)), (3, .int (x3 ||| (1 <<< (v50 &&& 31)))), (5, .int v50), (0, .ref (w.2.1 + 404)), (1, .ref (w.2.1 + a1)), (2, .int x2)]) dX6_puts_123 5 rfl rfl (by decide) rfl (e_goto (tgt := 16) dX6_puts_126 rfl k)) ?_
      refine es_sub [3, 4, 5, 1, 0] rfl ?_
      exact hk16 a1 x2 (x3 ||| (1 <<< (v50 &&& 31))) (x4 + 1) S59 r hf
    · rw [if_neg c52] at hf
      refine es_sub [] rfl ?_
      exact t_X6_puts_75 N S49 r hf
def f_X6_puts_16 (N : Nat)  : Nat → Nat → Int32 → Int32 → Int32 → xS → Option xr
  | 0, _, _, _, _, _ => none
  | n + 1, a1, x2, x3, x4, S =>
  if 6 < x4 then
    f_X6_puts_129 N a1 S
  else
    if x4 = 0 then
      f_X6_puts_40 N (f_X6_puts_16 N n) a1 x2 x3 x4 S
    else
      xcI (f_X9_passed N 33 S) (fun v64 S63 =>
      if v64 = 0 then
        f_X6_puts_129 N a1 S63
      else
        f_X6_puts_40 N (f_X6_puts_16 N n) a1 x2 x3 x4 S63
      )
set_option maxRecDepth 100000 in
set_option maxHeartbeats 4000000 in
theorem t_X6_puts_16 {l : Launch} {w : xW} {g : Nat → xE} (N : Nat)   : ∀ (n : Nat) (a1 : Nat) (x2 : Int32) (x3 : Int32) (x4 : Int32) (S : xS) (r : xr), f_X6_puts_16 N  n a1 x2 x3 x4 S = some r → ES l w g M_X6_puts 16 [(0, .ref (w.2.1 + 404)), (1, .ref (w.2.1 + a1)), (2, .int x2), (3, .int x3), (4, .int x4)] [] S r := by
  intro n
  induction n with
  | zero => intro a1 x2 x3 x4 S r hf; cases hf
  | succ n ih =>
    intro a1 x2 x3 x4 S r hf
    rw [f_X6_puts_16.eq_2] at hf
    refine es_l (pc' := 20) (ls' := [(0, .ref (w.2.1 + 404)), (1, .ref (w.2.1 + a1)), (2, .int x2), (3, .int x3), (4, .int x4)]) (st' := [.int 6, .int x4]) (fun _ _ k => e_iload dX6_puts_16 4 rfl (e_bipush (v := 6) dX6_puts_18 (by decide) k)) ?_
    refine es_br (c := 6 < x4) (tgt := 129) (pf := 23) (st' := []) (fun _ _ a b => e_icmp_gt dX6_puts_20 rfl a b) (fun c61 => ?_) (fun c61 => ?_)
    · rw [if_pos c61] at hf
      refine es_sub [0, 1] rfl ?_
      exact t_X6_puts_129 N a1 S r hf
    · rw [if_neg c61] at hf
      refine es_l (pc' := 25) (ls' := [(0, .ref (w.2.1 + 404)), (1, .ref (w.2.1 + a1)), (2, .int x2), (3, .int x3), (4, .int x4)]) (st' := [.int x4]) (fun _ _ k => e_iload dX6_puts_23 4 rfl k) ?_
      refine es_br (c := x4 = 0) (tgt := 40) (pf := 28) (st' := []) (fun _ _ a b => e_if_eq dX6_puts_25 rfl a b) (fun c62 => ?_) (fun c62 => ?_)
      · rw [if_pos c62] at hf
        exact t_X6_puts_40 N (f_X6_puts_16 N n) ih a1 x2 x3 x4 S r hf
      · rw [if_neg c62] at hf
        refine es_l (pc' := 29) (ls' := [(0, .ref (w.2.1 + 404)), (1, .ref (w.2.1 + a1)), (2, .int x2), (3, .int x3), (4, .int x4)]) (st' := [.ref (w.2.1 + 404)]) (fun _ _ k => e_aload_n dX6_puts_28 0 rfl k) ?_
        refine es_get (v := .ref (w.2.1 + 1)) xc_6 dX6_puts_29 fl_X6_9 (by decide) (by decide) (cel_404 _ _ _) rfl ?_
        refine es_l (pc' := 34) (ls' := [(0, .ref (w.2.1 + 404)), (1, .ref (w.2.1 + a1)), (2, .int x2), (3, .int x3), (4, .int x4)]) (st' := [.int 33, .ref (w.2.1 + 1)]) (fun _ _ k => e_bipush (v := 33) dX6_puts_32 (by decide) k) ?_
        refine es_callVI (as := [.int 33]) (rest := []) hf xc_9 dX6_puts_34 cs_X6_puts_X9_passed ml_X6_114 im_X9_passed se_X9_passed rfl rfl (Nat.le_of_ble_eq_true rfl) (Nat.le_of_ble_eq_true rfl) (by decide) rfl (cel_1 _ _ _) (fun _ e => t_X9_passed N 33 S _ e) (by decide) (fun v64 S63 hf => ?_)
        refine es_br (c := v64 = 0) (tgt := 129) (pf := 40) (st' := []) (fun _ _ a b => e_if_eq dX6_puts_37 rfl a b) (fun c65 => ?_) (fun c65 => ?_)
        · rw [if_pos c65] at hf
          refine es_sub [0, 1] rfl ?_
          exact t_X6_puts_129 N a1 S63 r hf
        · rw [if_neg c65] at hf
          exact t_X6_puts_40 N (f_X6_puts_16 N n) ih a1 x2 x3 x4 S63 r hf
def f_X6_puts (N : Nat) (a1 : Nat) (x2 : Int32) (S : xS) : Option xr :=
  if xStep a1 then
  f_X6_puts_16 N N a1 x2 0 0 (sI S a1 7 (S.1 97 6))
  else none
set_option maxRecDepth 100000 in
set_option maxHeartbeats 4000000 in
theorem t_X6_puts {l : Launch} {w : xW} {g : Nat → xE} (N : Nat) (a1 : Nat) (x2 : Int32) (S : xS) (r : xr) (hf : f_X6_puts N a1 x2 S = some r) : ES l w g M_X6_puts 0 (lv_args 0 [.ref (w.2.1 + 404), .ref (w.2.1 + a1), .int x2]) [] S r := by
  show ES l w g M_X6_puts 0 [(0, .ref (w.2.1 + 404)), (1, .ref (w.2.1 + a1)), (2, .int x2)] [] S r
  unfold f_X6_puts at hf
  refine es_l (pc' := 4) (ls' := [(3, .int 0), (0, .ref (w.2.1 + 404)), (1, .ref (w.2.1 + a1)), (2, .int x2)]) (st' := [.ref (w.2.1 + 404), .ref (w.2.1 + a1)]) (fun _ _ k => e_iconst (v := 0) dX6_puts_0 (by decide) (e_istore_n (ls' := [(3, .int 0), (0, .ref (w.2.1 + 404)), (1, .ref (w.2.1 + a1)), (2, .int x2)]) dX6_puts_1 (by decide) rfl (e_aload_n dX6_puts_2 2 rfl (e_aload_n dX6_puts_3 1 rfl k)))) ?_
  refine es_get (v := .ref (w.2.1 + 97)) xc_6 dX6_puts_4 fl_X6_19 (by decide) (by decide) (cel_404 _ _ _) rfl ?_
  refine es_get (v := .int (S.1 97 6)) xc_5 dX6_puts_7 fl_X6_157 (by decide) (by decide) (cel_97 _ _ _) rfl ?_
  obtain ⟨g66, hf⟩ := xg hf
  refine es_put xc_8 dX6_puts_10 fl_X6_160 (by decide) (by decide) (xStep_lt g66) (cel_st g66 _ _ _) rfl rfl rfl (by rw [cel_st g66]; rfl) ?_
  refine es_l (pc' := 16) (ls' := [(4, .int 0), (3, .int 0), (0, .ref (w.2.1 + 404)), (1, .ref (w.2.1 + a1)), (2, .int x2)]) (st' := []) (fun _ _ k => e_iconst (v := 0) dX6_puts_13 (by decide) (e_istore (ls' := [(4, .int 0), (3, .int 0), (0, .ref (w.2.1 + 404)), (1, .ref (w.2.1 + a1)), (2, .int x2)]) dX6_puts_14 (by decide) rfl k)) ?_
  refine es_sub [2, 3, 4, 1, 0] rfl ?_
  exact t_X6_puts_16 N N a1 x2 0 0 (sI S a1 7 (S.1 97 6)) r hf
def f_X6_insert (N : Nat)  (S : xS) : Option xr :=
  xcR (f_X5_addStep N 2 S) (fun v13 S12 =>
  xcV (f_X9_pass N S12) (fun S14 =>
  xcI (f_X7_takeKind N S14) (fun v17 S16 =>
  if xStep v13 then
  xcV (f_X6_puts N v13 0 (sI S16 v13 1 v17)) (fun S19 =>
  xcV (f_X9_take N 34 S19) (fun S21 =>
  some (.inl none, S21)
  )
  )
  else none
  )
  )
  )
set_option maxRecDepth 100000 in
set_option maxHeartbeats 4000000 in
theorem t_X6_insert {l : Launch} {w : xW} {g : Nat → xE} (N : Nat)  (S : xS) (r : xr) (hf : f_X6_insert N  S = some r) : ES l w g M_X6_insert 0 (lv_args 0 [.ref (w.2.1 + 404)]) [] S r := by
  show ES l w g M_X6_insert 0 [(0, .ref (w.2.1 + 404))] [] S r
  unfold f_X6_insert at hf
  refine es_l (pc' := 1) (ls' := [(0, .ref (w.2.1 + 404))]) (st' := [.ref (w.2.1 + 404)]) (fun _ _ k => e_aload_n dX6_insert_0 0 rfl k) ?_
  refine es_get (v := .ref (w.2.1 + 97)) xc_6 dX6_insert_1 fl_X6_19 (by decide) (by decide) (cel_404 _ _ _) rfl ?_
  refine es_l (pc' := 5) (ls' := [(0, .ref (w.2.1 + 404))]) (st' := [.int 2, .ref (w.2.1 + 97)]) (fun _ _ k => e_iconst (v := 2) dX6_insert_4 (by decide) k) ?_
  refine es_callVR (as := [.int 2]) (rest := []) hf xc_5 dX6_insert_5 cs_X6_insert_X5_addStep ml_X6_91 im_X5_addStep se_X5_addStep rfl rfl (Nat.le_of_ble_eq_true rfl) (Nat.le_of_ble_eq_true rfl) (by decide) rfl (cel_97 _ _ _) (fun _ e => t_X5_addStep N 2 S _ e) (by decide) (fun v13 S12 hf => ?_)
  refine es_l (pc' := 10) (ls' := [(1, .ref (w.2.1 + v13)), (0, .ref (w.2.1 + 404))]) (st' := [.ref (w.2.1 + 404)]) (fun _ _ k => e_astore_n (ls' := [(1, .ref (w.2.1 + v13)), (0, .ref (w.2.1 + 404))]) dX6_insert_8 (by decide) rfl (e_aload_n dX6_insert_9 1 rfl k)) ?_
  refine es_get (v := .ref (w.2.1 + 1)) xc_6 dX6_insert_10 fl_X6_9 (by decide) (by decide) (cel_404 _ _ _) rfl ?_
  refine es_callVV (as := []) (rest := []) hf xc_9 dX6_insert_13 cs_X6_insert_X9_pass ml_X6_95 im_X9_pass se_X9_pass rfl rfl (Nat.le_of_ble_eq_true rfl) (Nat.le_of_ble_eq_true rfl) (by decide) rfl (cel_1 _ _ _) (fun _ e => t_X9_pass N  S12 _ e) (by decide) (fun S14 hf => ?_)
  refine es_l (pc' := 18) (ls' := [(1, .ref (w.2.1 + v13)), (0, .ref (w.2.1 + 404))]) (st' := [.ref (w.2.1 + 404), .ref (w.2.1 + v13)]) (fun _ _ k => e_aload_n dX6_insert_16 0 rfl (e_aload_n dX6_insert_17 1 rfl k)) ?_
  refine es_get (v := .ref (w.2.1 + 405)) xc_6 dX6_insert_18 fl_X6_28 (by decide) (by decide) (cel_404 _ _ _) rfl ?_
  refine es_callVI (as := []) (rest := [.ref (w.2.1 + v13)]) hf xc_7 dX6_insert_21 cs_X6_insert_X7_takeKind ml_X6_136 im_X7_takeKind se_X7_takeKind rfl rfl (Nat.le_of_ble_eq_true rfl) (Nat.le_of_ble_eq_true rfl) (by decide) rfl (cel_405 _ _ _) (fun _ e => t_X7_takeKind N  S14 _ e) (by decide) (fun v17 S16 hf => ?_)
  obtain ⟨g18, hf⟩ := xg hf
  refine es_put xc_8 dX6_insert_24 fl_X6_139 (by decide) (by decide) (xStep_lt g18) (cel_st g18 _ _ _) rfl rfl rfl (by rw [cel_st g18]; rfl) ?_
  refine es_l (pc' := 30) (ls' := [(1, .ref (w.2.1 + v13)), (0, .ref (w.2.1 + 404))]) (st' := [.int 0, .ref (w.2.1 + v13), .ref (w.2.1 + 404)]) (fun _ _ k => e_aload_n dX6_insert_27 1 rfl (e_aload_n dX6_insert_28 0 rfl (e_iconst (v := 0) dX6_insert_29 (by decide) k))) ?_
  refine es_callVV (as := [.ref (w.2.1 + v13), .int 0]) (rest := []) hf xc_6 dX6_insert_30 cs_X6_insert_X6_puts ml_X6_144 im_X6_puts se_X6_puts rfl rfl (Nat.le_of_ble_eq_true rfl) (Nat.le_of_ble_eq_true rfl) (by decide) rfl (cel_404 _ _ _) (fun _ e => t_X6_puts N v13 0 (sI S16 v13 1 v17) _ e) (by decide) (fun S19 hf => ?_)
  refine es_l (pc' := 34) (ls' := [(1, .ref (w.2.1 + v13)), (0, .ref (w.2.1 + 404))]) (st' := [.ref (w.2.1 + 404)]) (fun _ _ k => e_aload_n dX6_insert_33 1 rfl k) ?_
  refine es_get (v := .ref (w.2.1 + 1)) xc_6 dX6_insert_34 fl_X6_9 (by decide) (by decide) (cel_404 _ _ _) rfl ?_
  refine es_l (pc' := 39) (ls' := [(1, .ref (w.2.1 + v13)), (0, .ref (w.2.1 + 404))]) (st' := [.int 34, .ref (w.2.1 + 1)]) (fun _ _ k => e_bipush (v := 34) dX6_insert_37 (by decide) k) ?_
  refine es_callVV (as := [.int 34]) (rest := []) hf xc_9 dX6_insert_39 cs_X6_insert_X9_take ml_X6_122 im_X9_take se_X9_take rfl rfl (Nat.le_of_ble_eq_true rfl) (Nat.le_of_ble_eq_true rfl) (by decide) rfl (cel_1 _ _ _) (fun _ e => t_X9_take N 34 S19 _ e) (by decide) (fun S21 hf => ?_)
  exact es_return dX6_insert_42 rfl hf
