def f_J6_numberOfTrailingZeros_0f7a4_74 (N : Nat)  (x0 : Int32) (x1 : Int32) (S : xS) : Option xr :=
  some (.inl (some (.inl (x1 + ((x0.toUInt32 >>> ((1 : Int32).toUInt32 &&& Int32.toUInt32 31)).toInt32)))), S)
set_option maxRecDepth 100000 in
set_option maxHeartbeats 4000000 in
theorem t_J6_numberOfTrailingZeros_0f7a4_74 {l : Launch} {w : xW} {g : Nat → xE} (N : Nat)   (x0 : Int32) (x1 : Int32) (S : xS) (r : xr) (hf : f_J6_numberOfTrailingZeros_0f7a4_74 N  x0 x1 S = some r) : ES l w g M_J6_numberOfTrailingZeros_0f7a4 74 [(0, .int x0), (1, .int x1)] [] S r := by
  unfold f_J6_numberOfTrailingZeros_0f7a4_74 at hf
  refine es_l (pc' := 79) (ls' := [(0, .int x0), (1, .int x1)]) (st' := [.int (x1 + ((x0.toUInt32 >>> ((1 : Int32).toUInt32 &&& Int32.toUInt32 31)).toInt32))]) (fun _ _ k => e_iload_n dJ6_numberOfTrailingZeros_0f7a4_74 1 rfl (e_iload_n dJ6_numberOfTrailingZeros_0f7a4_75 0 rfl (e_iconst (v := 1) dJ6_numberOfTrailingZeros_0f7a4_76 (by decide) (e_iushr (v := (x0.toUInt32 >>> ((1 : Int32).toUInt32 &&& Int32.toUInt32 31)).toInt32) dJ6_numberOfTrailingZeros_0f7a4_77 rfl (e_iadd dJ6_numberOfTrailingZeros_0f7a4_78 k))))) ?_
  exact es_ireturn (ty := .int) dJ6_numberOfTrailingZeros_0f7a4_79 rfl rfl hf
def f_J6_numberOfTrailingZeros_0f7a4_62 (N : Nat)  (x0 : Int32) (x1 : Int32) (S : xS) : Option xr :=
  if x0 ≤ 4 then
    f_J6_numberOfTrailingZeros_0f7a4_74 N x0 x1 S
  else
    f_J6_numberOfTrailingZeros_0f7a4_74 N ((x0.toUInt32 >>> ((2 : Int32).toUInt32 &&& Int32.toUInt32 31)).toInt32) (x1 + 2) S
set_option maxRecDepth 100000 in
set_option maxHeartbeats 4000000 in
theorem t_J6_numberOfTrailingZeros_0f7a4_62 {l : Launch} {w : xW} {g : Nat → xE} (N : Nat)   (x0 : Int32) (x1 : Int32) (S : xS) (r : xr) (hf : f_J6_numberOfTrailingZeros_0f7a4_62 N  x0 x1 S = some r) : ES l w g M_J6_numberOfTrailingZeros_0f7a4 62 [(0, .int x0), (1, .int x1)] [] S r := by
  unfold f_J6_numberOfTrailingZeros_0f7a4_62 at hf
  refine es_l (pc' := 64) (ls' := [(0, .int x0), (1, .int x1)]) (st' := [.int 4, .int x0]) (fun _ _ k => e_iload_n dJ6_numberOfTrailingZeros_0f7a4_62 0 rfl (e_iconst (v := 4) dJ6_numberOfTrailingZeros_0f7a4_63 (by decide) k)) ?_
  refine es_br (c := x0 ≤ 4) (tgt := 74) (pf := 67) (st' := []) (fun _ _ a b => e_icmp_le dJ6_numberOfTrailingZeros_0f7a4_64 rfl a b) (fun c11 => ?_) (fun c11 => ?_)
  · rw [if_pos c11] at hf
    exact t_J6_numberOfTrailingZeros_0f7a4_74 N x0 x1 S r hf
  · rw [if_neg c11] at hf
    refine es_l (pc' := 74) (ls' := [(0, .int ((x0.toUInt32 >>> ((2 : Int32).toUInt32 &&& Int32.toUInt32 31)).toInt32)), (1, .int (x1 + 2))]) (st' := []) (fun _ _ k => e_iinc (v := x1 + 2) (ls' := [(1, .int (x1 + 2)), (0, .int x0)]) dJ6_numberOfTrailingZeros_0f7a4_67 1 rfl rfl (by decide) rfl (e_iload_n dJ6_numberOfTrailingZeros_0f7a4_70 1 rfl (e_iconst (v := 2) dJ6_numberOfTrailingZeros_0f7a4_71 (by decide) (e_iushr (v := (x0.toUInt32 >>> ((2 : Int32).toUInt32 &&& Int32.toUInt32 31)).toInt32) dJ6_numberOfTrailingZeros_0f7a4_72 rfl (e_istore_n (ls' := [(0, .int ((x0.toUInt32 >>> ((2 : Int32).toUInt32 &&& Int32.toUInt32 31)).toInt32)), (1, .int (x1 + 2))]) dJ6_numberOfTrailingZeros_0f7a4_73 (by decide) rfl k))))) ?_
    exact t_J6_numberOfTrailingZeros_0f7a4_74 N ((x0.toUInt32 >>> ((2 : Int32).toUInt32 &&& Int32.toUInt32 31)).toInt32) (x1 + 2) S r hf
def f_J6_numberOfTrailingZeros_0f7a4_49 (N : Nat)  (x0 : Int32) (x1 : Int32) (S : xS) : Option xr :=
  if x0 ≤ 16 then
    f_J6_numberOfTrailingZeros_0f7a4_62 N x0 x1 S
  else
    f_J6_numberOfTrailingZeros_0f7a4_62 N ((x0.toUInt32 >>> ((4 : Int32).toUInt32 &&& Int32.toUInt32 31)).toInt32) (x1 + 4) S
set_option maxRecDepth 100000 in
set_option maxHeartbeats 4000000 in
theorem t_J6_numberOfTrailingZeros_0f7a4_49 {l : Launch} {w : xW} {g : Nat → xE} (N : Nat)   (x0 : Int32) (x1 : Int32) (S : xS) (r : xr) (hf : f_J6_numberOfTrailingZeros_0f7a4_49 N  x0 x1 S = some r) : ES l w g M_J6_numberOfTrailingZeros_0f7a4 49 [(0, .int x0), (1, .int x1)] [] S r := by
  unfold f_J6_numberOfTrailingZeros_0f7a4_49 at hf
  refine es_l (pc' := 52) (ls' := [(0, .int x0), (1, .int x1)]) (st' := [.int 16, .int x0]) (fun _ _ k => e_iload_n dJ6_numberOfTrailingZeros_0f7a4_49 0 rfl (e_bipush (v := 16) dJ6_numberOfTrailingZeros_0f7a4_50 (by decide) k)) ?_
  refine es_br (c := x0 ≤ 16) (tgt := 62) (pf := 55) (st' := []) (fun _ _ a b => e_icmp_le dJ6_numberOfTrailingZeros_0f7a4_52 rfl a b) (fun c12 => ?_) (fun c12 => ?_)
  · rw [if_pos c12] at hf
    exact t_J6_numberOfTrailingZeros_0f7a4_62 N x0 x1 S r hf
  · rw [if_neg c12] at hf
    refine es_l (pc' := 62) (ls' := [(0, .int ((x0.toUInt32 >>> ((4 : Int32).toUInt32 &&& Int32.toUInt32 31)).toInt32)), (1, .int (x1 + 4))]) (st' := []) (fun _ _ k => e_iinc (v := x1 + 4) (ls' := [(1, .int (x1 + 4)), (0, .int x0)]) dJ6_numberOfTrailingZeros_0f7a4_55 1 rfl rfl (by decide) rfl (e_iload_n dJ6_numberOfTrailingZeros_0f7a4_58 1 rfl (e_iconst (v := 4) dJ6_numberOfTrailingZeros_0f7a4_59 (by decide) (e_iushr (v := (x0.toUInt32 >>> ((4 : Int32).toUInt32 &&& Int32.toUInt32 31)).toInt32) dJ6_numberOfTrailingZeros_0f7a4_60 rfl (e_istore_n (ls' := [(0, .int ((x0.toUInt32 >>> ((4 : Int32).toUInt32 &&& Int32.toUInt32 31)).toInt32)), (1, .int (x1 + 4))]) dJ6_numberOfTrailingZeros_0f7a4_61 (by decide) rfl k))))) ?_
    exact t_J6_numberOfTrailingZeros_0f7a4_62 N ((x0.toUInt32 >>> ((4 : Int32).toUInt32 &&& Int32.toUInt32 31)).toInt32) (x1 + 4) S r hf
def f_J6_numberOfTrailingZeros_0f7a4_34 (N : Nat)  (x0 : Int32) (x1 : Int32) (S : xS) : Option xr :=
  if x0 ≤ 256 then
    f_J6_numberOfTrailingZeros_0f7a4_49 N x0 x1 S
  else
    f_J6_numberOfTrailingZeros_0f7a4_49 N ((x0.toUInt32 >>> ((8 : Int32).toUInt32 &&& Int32.toUInt32 31)).toInt32) (x1 + 8) S
set_option maxRecDepth 100000 in
set_option maxHeartbeats 4000000 in
theorem t_J6_numberOfTrailingZeros_0f7a4_34 {l : Launch} {w : xW} {g : Nat → xE} (N : Nat)   (x0 : Int32) (x1 : Int32) (S : xS) (r : xr) (hf : f_J6_numberOfTrailingZeros_0f7a4_34 N  x0 x1 S = some r) : ES l w g M_J6_numberOfTrailingZeros_0f7a4 34 [(0, .int x0), (1, .int x1)] [] S r := by
  unfold f_J6_numberOfTrailingZeros_0f7a4_34 at hf
  refine es_l (pc' := 38) (ls' := [(0, .int x0), (1, .int x1)]) (st' := [.int 256, .int x0]) (fun _ _ k => e_iload_n dJ6_numberOfTrailingZeros_0f7a4_34 0 rfl (e_sipush (v := 256) dJ6_numberOfTrailingZeros_0f7a4_35 (by decide) k)) ?_
  refine es_br (c := x0 ≤ 256) (tgt := 49) (pf := 41) (st' := []) (fun _ _ a b => e_icmp_le dJ6_numberOfTrailingZeros_0f7a4_38 rfl a b) (fun c13 => ?_) (fun c13 => ?_)
  · rw [if_pos c13] at hf
    exact t_J6_numberOfTrailingZeros_0f7a4_49 N x0 x1 S r hf
  · rw [if_neg c13] at hf
    refine es_l (pc' := 49) (ls' := [(0, .int ((x0.toUInt32 >>> ((8 : Int32).toUInt32 &&& Int32.toUInt32 31)).toInt32)), (1, .int (x1 + 8))]) (st' := []) (fun _ _ k => e_iinc (v := x1 + 8) (ls' := [(1, .int (x1 + 8)), (0, .int x0)]) dJ6_numberOfTrailingZeros_0f7a4_41 1 rfl rfl (by decide) rfl (e_iload_n dJ6_numberOfTrailingZeros_0f7a4_44 1 rfl (e_bipush (v := 8) dJ6_numberOfTrailingZeros_0f7a4_45 (by decide) (e_iushr (v := (x0.toUInt32 >>> ((8 : Int32).toUInt32 &&& Int32.toUInt32 31)).toInt32) dJ6_numberOfTrailingZeros_0f7a4_47 rfl (e_istore_n (ls' := [(0, .int ((x0.toUInt32 >>> ((8 : Int32).toUInt32 &&& Int32.toUInt32 31)).toInt32)), (1, .int (x1 + 8))]) dJ6_numberOfTrailingZeros_0f7a4_48 (by decide) rfl k))))) ?_
    exact t_J6_numberOfTrailingZeros_0f7a4_49 N ((x0.toUInt32 >>> ((8 : Int32).toUInt32 &&& Int32.toUInt32 31)).toInt32) (x1 + 8) S r hf
def f_J6_numberOfTrailingZeros_0f7a4 (N : Nat) (x0 : Int32) (S : xS) : Option xr :=
  if 0 < ((x0 ^^^ ((-1))) &&& (x0 - 1)) then
    if ((x0 ^^^ ((-1))) &&& (x0 - 1)) ≤ 65536 then
      f_J6_numberOfTrailingZeros_0f7a4_34 N ((x0 ^^^ ((-1))) &&& (x0 - 1)) 1 S
    else
      f_J6_numberOfTrailingZeros_0f7a4_34 N ((((x0 ^^^ ((-1))) &&& (x0 - 1)).toUInt32 >>> ((16 : Int32).toUInt32 &&& Int32.toUInt32 31)).toInt32) (1 + 16) S
  else
    some (.inl (some (.inl (((x0 ^^^ ((-1))) &&& (x0 - 1)) &&& 32))), S)
set_option maxRecDepth 100000 in
set_option maxHeartbeats 4000000 in
theorem t_J6_numberOfTrailingZeros_0f7a4 {l : Launch} {w : xW} {g : Nat → xE} (N : Nat) (x0 : Int32) (S : xS) (r : xr) (hf : f_J6_numberOfTrailingZeros_0f7a4 N x0 S = some r) : ES l w g M_J6_numberOfTrailingZeros_0f7a4 0 (lv_args 0 [.int x0]) [] S r := by
  show ES l w g M_J6_numberOfTrailingZeros_0f7a4 0 [(0, .int x0)] [] S r
  unfold f_J6_numberOfTrailingZeros_0f7a4 at hf
  refine es_l (pc' := 9) (ls' := [(0, .int ((x0 ^^^ ((-1))) &&& (x0 - 1)))]) (st' := [.int ((x0 ^^^ ((-1))) &&& (x0 - 1))]) (fun _ _ k => e_iload_n dJ6_numberOfTrailingZeros_0f7a4_0 0 rfl (e_iconst (v := (-1)) dJ6_numberOfTrailingZeros_0f7a4_1 (by decide) (e_ixor dJ6_numberOfTrailingZeros_0f7a4_2 (e_iload_n dJ6_numberOfTrailingZeros_0f7a4_3 0 rfl (e_iconst (v := 1) dJ6_numberOfTrailingZeros_0f7a4_4 (by decide) (e_isub dJ6_numberOfTrailingZeros_0f7a4_5 (e_iand dJ6_numberOfTrailingZeros_0f7a4_6 (e_istore_n (ls' := [(0, .int ((x0 ^^^ ((-1))) &&& (x0 - 1)))]) dJ6_numberOfTrailingZeros_0f7a4_7 (by decide) rfl (e_iload_n dJ6_numberOfTrailingZeros_0f7a4_8 0 rfl k))))))))) ?_
  refine es_br (c := 0 < ((x0 ^^^ ((-1))) &&& (x0 - 1))) (tgt := 17) (pf := 12) (st' := []) (fun _ _ a b => e_if_gt dJ6_numberOfTrailingZeros_0f7a4_9 rfl a b) (fun c14 => ?_) (fun c14 => ?_)
  · rw [if_pos c14] at hf
    refine es_l (pc' := 23) (ls' := [(1, .int 1), (0, .int ((x0 ^^^ ((-1))) &&& (x0 - 1)))]) (st' := [.int 65536, .int ((x0 ^^^ ((-1))) &&& (x0 - 1))]) (fun _ _ k => e_iconst (v := 1) dJ6_numberOfTrailingZeros_0f7a4_17 (by decide) (e_istore_n (ls' := [(1, .int 1), (0, .int ((x0 ^^^ ((-1))) &&& (x0 - 1)))]) dJ6_numberOfTrailingZeros_0f7a4_18 (by decide) rfl (e_iload_n dJ6_numberOfTrailingZeros_0f7a4_19 1 rfl (e_ldcw dJ6_numberOfTrailingZeros_0f7a4_20 ki_J6_264 k)))) ?_
    refine es_br (c := ((x0 ^^^ ((-1))) &&& (x0 - 1)) ≤ 65536) (tgt := 34) (pf := 26) (st' := []) (fun _ _ a b => e_icmp_le dJ6_numberOfTrailingZeros_0f7a4_23 rfl a b) (fun c15 => ?_) (fun c15 => ?_)
    · rw [if_pos c15] at hf
      refine es_sub [1, 0] rfl ?_
      exact t_J6_numberOfTrailingZeros_0f7a4_34 N ((x0 ^^^ ((-1))) &&& (x0 - 1)) 1 S r hf
    · rw [if_neg c15] at hf
      refine es_l (pc' := 34) (ls' := [(0, .int ((((x0 ^^^ ((-1))) &&& (x0 - 1)).toUInt32 >>> ((16 : Int32).toUInt32 &&& Int32.toUInt32 31)).toInt32)), (1, .int (1 + 16))]) (st' := []) (fun _ _ k => e_iinc (v := 1 + 16) (ls' := [(1, .int (1 + 16)), (0, .int ((x0 ^^^ ((-1))) &&& (x0 - 1)))]) dJ6_numberOfTrailingZeros_0f7a4_26 0 rfl rfl (by decide) rfl (e_iload_n dJ6_numberOfTrailingZeros_0f7a4_29 1 rfl (e_bipush (v := 16) dJ6_numberOfTrailingZeros_0f7a4_30 (by decide) (e_iushr (v := (((x0 ^^^ ((-1))) &&& (x0 - 1)).toUInt32 >>> ((16 : Int32).toUInt32 &&& Int32.toUInt32 31)).toInt32) dJ6_numberOfTrailingZeros_0f7a4_32 rfl (e_istore_n (ls' := [(0, .int ((((x0 ^^^ ((-1))) &&& (x0 - 1)).toUInt32 >>> ((16 : Int32).toUInt32 &&& Int32.toUInt32 31)).toInt32)), (1, .int (1 + 16))]) dJ6_numberOfTrailingZeros_0f7a4_33 (by decide) rfl k))))) ?_
      exact t_J6_numberOfTrailingZeros_0f7a4_34 N ((((x0 ^^^ ((-1))) &&& (x0 - 1)).toUInt32 >>> ((16 : Int32).toUInt32 &&& Int32.toUInt32 31)).toInt32) (1 + 16) S r hf
  · rw [if_neg c14] at hf
    refine es_l (pc' := 16) (ls' := [(0, .int ((x0 ^^^ ((-1))) &&& (x0 - 1)))]) (st' := [.int (((x0 ^^^ ((-1))) &&& (x0 - 1)) &&& 32)]) (fun _ _ k => e_iload_n dJ6_numberOfTrailingZeros_0f7a4_12 0 rfl (e_bipush (v := 32) dJ6_numberOfTrailingZeros_0f7a4_13 (by decide) (e_iand dJ6_numberOfTrailingZeros_0f7a4_15 k))) ?_
    exact es_ireturn (ty := .int) dJ6_numberOfTrailingZeros_0f7a4_16 rfl rfl hf
def f_J13_numberOfTrailingZeros_95d88_25 (N : Nat)  (s0 : Int32) (S : xS) : Option xr :=
  some (.inl (some (.inl s0)), S)
set_option maxRecDepth 100000 in
set_option maxHeartbeats 4000000 in
theorem t_J13_numberOfTrailingZeros_95d88_25 {l : Launch} {w : xW} {g : Nat → xE} (N : Nat)   (s0 : Int32) (S : xS) (r : xr) (hf : f_J13_numberOfTrailingZeros_95d88_25 N  s0 S = some r) : ES l w g M_J13_numberOfTrailingZeros_95d88 25 [] [.int s0] S r := by
  unfold f_J13_numberOfTrailingZeros_95d88_25 at hf
  exact es_ireturn (ty := .int) dJ13_numberOfTrailingZeros_95d88_25 rfl rfl hf
def f_J13_numberOfTrailingZeros_95d88 (N : Nat) (y0 : Int64) (S : xS) : Option xr :=
  if ((y0 : Int64).toInt32) = 0 then
    xcI (f_J6_numberOfTrailingZeros_0f7a4 N ((((y0 : Int64).toUInt64 >>> ((32 : Int32).toInt64.toUInt64 &&& Int64.toUInt64 63)).toInt64 : Int64).toInt32) S) (fun v13 S12 =>
    f_J13_numberOfTrailingZeros_95d88_25 N (32 + v13) S12
    )
  else
    xcI (f_J6_numberOfTrailingZeros_0f7a4 N ((y0 : Int64).toInt32) S) (fun v15 S14 =>
    f_J13_numberOfTrailingZeros_95d88_25 N v15 S14
    )
set_option maxRecDepth 100000 in
set_option maxHeartbeats 4000000 in
theorem t_J13_numberOfTrailingZeros_95d88 {l : Launch} {w : xW} {g : Nat → xE} (N : Nat) (y0 : Int64) (S : xS) (r : xr) (hf : f_J13_numberOfTrailingZeros_95d88 N y0 S = some r) : ES l w g M_J13_numberOfTrailingZeros_95d88 0 (lv_args 0 [.long y0]) [] S r := by
  show ES l w g M_J13_numberOfTrailingZeros_95d88 0 [(0, .long y0)] [] S r
  unfold f_J13_numberOfTrailingZeros_95d88 at hf
  refine es_l (pc' := 4) (ls' := [(2, .int ((y0 : Int64).toInt32)), (0, .long y0)]) (st' := [.int ((y0 : Int64).toInt32)]) (fun _ _ k => e_lload_n dJ13_numberOfTrailingZeros_95d88_0 0 rfl (e_l2i (v := (y0 : Int64).toInt32) dJ13_numberOfTrailingZeros_95d88_1 rfl (e_istore_n (ls' := [(2, .int ((y0 : Int64).toInt32)), (0, .long y0)]) dJ13_numberOfTrailingZeros_95d88_2 (by decide) rfl (e_iload_n dJ13_numberOfTrailingZeros_95d88_3 0 rfl k)))) ?_
  refine es_br (c := ((y0 : Int64).toInt32) = 0) (tgt := 7) (pf := 21) (st' := []) (fun _ _ a b => e_if_ne dJ13_numberOfTrailingZeros_95d88_4 rfl b a) (fun c11 => ?_) (fun c11 => ?_)
  · rw [if_pos c11] at hf
    refine es_l (pc' := 14) (ls' := [(2, .int ((y0 : Int64).toInt32)), (0, .long y0)]) (st' := [.int ((((y0 : Int64).toUInt64 >>> ((32 : Int32).toInt64.toUInt64 &&& Int64.toUInt64 63)).toInt64 : Int64).toInt32), .int 32]) (fun _ _ k => e_bipush (v := 32) dJ13_numberOfTrailingZeros_95d88_7 (by decide) (e_lload_n dJ13_numberOfTrailingZeros_95d88_9 1 rfl (e_bipush (v := 32) dJ13_numberOfTrailingZeros_95d88_10 (by decide) (e_lushr (v := ((y0 : Int64).toUInt64 >>> ((32 : Int32).toInt64.toUInt64 &&& Int64.toUInt64 63)).toInt64) dJ13_numberOfTrailingZeros_95d88_12 rfl (e_l2i (v := (((y0 : Int64).toUInt64 >>> ((32 : Int32).toInt64.toUInt64 &&& Int64.toUInt64 63)).toInt64 : Int64).toInt32) dJ13_numberOfTrailingZeros_95d88_13 rfl k))))) ?_
    refine es_callSI (as := [.int ((((y0 : Int64).toUInt64 >>> ((32 : Int32).toInt64.toUInt64 &&& Int64.toUInt64 63)).toInt64 : Int64).toInt32)]) (rest := [.int 32]) hf dJ13_numberOfTrailingZeros_95d88_14 cs_J13_numberOfTrailingZeros_95d88_J6_numberOfTrailingZeros_0f7a4 ml_J13_311 st_J6_numberOfTrailingZeros_0f7a4 rfl rfl (Nat.le_of_ble_eq_true rfl) (Nat.le_of_ble_eq_true rfl) (fun _ e => t_J6_numberOfTrailingZeros_0f7a4 N ((((y0 : Int64).toUInt64 >>> ((32 : Int32).toInt64.toUInt64 &&& Int64.toUInt64 63)).toInt64 : Int64).toInt32) S _ e) (by decide) (fun v13 S12 hf => ?_)
    refine es_l (pc' := 25) (ls' := [(2, .int ((y0 : Int64).toInt32)), (0, .long y0)]) (st' := [.int (32 + v13)]) (fun _ _ k => e_iadd dJ13_numberOfTrailingZeros_95d88_17 (e_goto (tgt := 25) dJ13_numberOfTrailingZeros_95d88_18 rfl k)) ?_
    refine es_sub [] rfl ?_
    exact t_J13_numberOfTrailingZeros_95d88_25 N (32 + v13) S12 r hf
  · rw [if_neg c11] at hf
    refine es_l (pc' := 22) (ls' := [(2, .int ((y0 : Int64).toInt32)), (0, .long y0)]) (st' := [.int ((y0 : Int64).toInt32)]) (fun _ _ k => e_iload_n dJ13_numberOfTrailingZeros_95d88_21 0 rfl k) ?_
    refine es_callSI (as := [.int ((y0 : Int64).toInt32)]) (rest := []) hf dJ13_numberOfTrailingZeros_95d88_22 cs_J13_numberOfTrailingZeros_95d88_J6_numberOfTrailingZeros_0f7a4 ml_J13_311 st_J6_numberOfTrailingZeros_0f7a4 rfl rfl (Nat.le_of_ble_eq_true rfl) (Nat.le_of_ble_eq_true rfl) (fun _ e => t_J6_numberOfTrailingZeros_0f7a4 N ((y0 : Int64).toInt32) S _ e) (by decide) (fun v15 S14 hf => ?_)
    refine es_sub [] rfl ?_
    exact t_J13_numberOfTrailingZeros_95d88_25 N v15 S14 r hf
def f_X10_add_54 (N : Nat)  : Nat → Int32 → Int32 → xS → Option xr
  | 0, _, _, _ => none
  | n + 1, x2, x3, S =>
  if 6 ≤ x3 then
    some (.inl (some (.inl x2)), S)
  else
    if xin x2 64 then
    if xin x3 6 then
    f_X10_add_54 N n x2 (x3 + 1) (sI S (32 + x2.toNatClampNeg) x3.toNatClampNeg 0)
    else none
    else none
set_option maxRecDepth 100000 in
set_option maxHeartbeats 4000000 in
theorem t_X10_add_54 {l : Launch} {w : xW} {g : Nat → xE} (N : Nat)   : ∀ (n : Nat) (x2 : Int32) (x3 : Int32) (S : xS) (r : xr), f_X10_add_54 N  n x2 x3 S = some r → ES l w g M_X10_add 54 [(0, .ref (w.2.1 + 29)), (2, .int x2), (3, .int x3)] [] S r := by
  intro n
  induction n with
  | zero => intro x2 x3 S r hf; cases hf
  | succ n ih =>
    intro x2 x3 S r hf
    rw [f_X10_add_54.eq_2] at hf
    refine es_l (pc' := 57) (ls' := [(0, .ref (w.2.1 + 29)), (2, .int x2), (3, .int x3)]) (st' := [.int 6, .int x3]) (fun _ _ k => e_iload_n dX10_add_54 2 rfl (e_bipush (v := 6) dX10_add_55 (by decide) k)) ?_
    refine es_br (c := 6 ≤ x3) (tgt := 75) (pf := 60) (st' := []) (fun _ _ a b => e_icmp_ge dX10_add_57 rfl a b) (fun c21 => ?_) (fun c21 => ?_)
    · rw [if_pos c21] at hf
      refine es_l (pc' := 76) (ls' := [(0, .ref (w.2.1 + 29)), (2, .int x2), (3, .int x3)]) (st' := [.int x2]) (fun _ _ k => e_iload_n dX10_add_75 1 rfl k) ?_
      exact es_ireturn (ty := .int) dX10_add_76 rfl rfl hf
    · rw [if_neg c21] at hf
      refine es_l (pc' := 61) (ls' := [(0, .ref (w.2.1 + 29)), (2, .int x2), (3, .int x3)]) (st' := [.ref (w.2.1 + 29)]) (fun _ _ k => e_aload_n dX10_add_60 0 rfl k) ?_
      refine es_get (v := .ref (w.2.1 + 31)) xc_10 dX10_add_61 fl_X10_17 (by decide) (by decide) (cel_29 _ _ _) rfl ?_
      refine es_l (pc' := 65) (ls' := [(0, .ref (w.2.1 + 29)), (2, .int x2), (3, .int x3)]) (st' := [.int x2, .ref (w.2.1 + 31)]) (fun _ _ k => e_iload_n dX10_add_64 1 rfl k) ?_
      obtain ⟨g22, hf⟩ := xg hf
      refine es_aald (v := .ref (w.2.1 + (32 + x2.toNatClampNeg))) rfl dX10_add_65 (by decide) (cel_31 _ _ _) g22 rfl ?_
      refine es_l (pc' := 68) (ls' := [(0, .ref (w.2.1 + 29)), (2, .int x2), (3, .int x3)]) (st' := [.int 0, .int x3, .ref (w.2.1 + (32 + x2.toNatClampNeg))]) (fun _ _ k => e_iload_n dX10_add_66 2 rfl (e_iconst (v := 0) dX10_add_67 (by decide) k)) ?_
      obtain ⟨g23, hf⟩ := xg hf
      refine es_iast dX10_add_68 (xReg32_lt (xReg32_at g22)) (cel_r32 (xReg32_at g22) _) g23 ?_
      refine es_l (pc' := 54) (ls' := [(3, .int (x3 + 1)), (0, .ref (w.2.1 + 29)), (2, .int x2)]) (st' := []) (fun _ _ k => e_iinc (v := x3 + 1) (ls' := [(3, .int (x3 + 1)), (0, .ref (w.2.1 + 29)), (2, .int x2)]) dX10_add_69 2 rfl rfl (by decide) rfl (e_goto (tgt := 54) dX10_add_72 rfl k)) ?_
      refine es_sub [1, 2, 0] rfl ?_
      exact ih x2 (x3 + 1) (sI S (32 + x2.toNatClampNeg) x3.toNatClampNeg 0) r hf
def f_X10_add (N : Nat) (x1 : Int32) (S : xS) : Option xr :=
  xcJ (f_X10_taken N S) (fun v25 S24 =>
  xcI (f_J13_numberOfTrailingZeros_95d88 N (v25 ^^^ ((-1))) S24) (fun v27 S26 =>
  if v27 = 64 then
    some (.inl (some (.inl ((-1)))), S26)
  else
    if xin x1 8 then
    if xin v27 64 then
    f_X10_add_54 N N v27 0 (sI (sI (sJ S26 30 x1.toNatClampNeg ((S26.2.1 30 x1.toNatClampNeg) ||| ((1 : Int64) <<< ((v27 : Int32).toInt64 &&& 63)))) 29 3 ((S26.1 29 3) + 1)) 96 v27.toNatClampNeg ((S26.1 29 3) + 1))
    else none
    else none
  )
  )
set_option maxRecDepth 100000 in
set_option maxHeartbeats 4000000 in
theorem t_X10_add {l : Launch} {w : xW} {g : Nat → xE} (N : Nat) (x1 : Int32) (S : xS) (r : xr) (hf : f_X10_add N x1 S = some r) : ES l w g M_X10_add 0 (lv_args 0 [.ref (w.2.1 + 29), .int x1]) [] S r := by
  show ES l w g M_X10_add 0 [(0, .ref (w.2.1 + 29)), (1, .int x1)] [] S r
  unfold f_X10_add at hf
  refine es_l (pc' := 1) (ls' := [(0, .ref (w.2.1 + 29)), (1, .int x1)]) (st' := [.ref (w.2.1 + 29)]) (fun _ _ k => e_aload_n dX10_add_0 0 rfl k) ?_
  refine es_callVJ (as := []) (rest := []) hf xc_10 dX10_add_1 cs_X10_add_X10_taken ml_X10_24 im_X10_taken se_X10_taken rfl rfl (Nat.le_of_ble_eq_true rfl) (Nat.le_of_ble_eq_true rfl) (by decide) rfl (cel_29 _ _ _) (fun _ e => t_X10_taken N  S _ e) (by decide) (fun v25 S24 hf => ?_)
  refine es_l (pc' := 8) (ls' := [(0, .ref (w.2.1 + 29)), (1, .int x1)]) (st' := [.long (v25 ^^^ ((-1)))]) (fun _ _ k => e_ldc2 dX10_add_4 kj_X10_28 (e_lxor dX10_add_7 k)) ?_
  refine es_callSI (as := [.long (v25 ^^^ ((-1)))]) (rest := []) hf dX10_add_8 cs_X10_add_J13_numberOfTrailingZeros_95d88 ml_X10_30 st_J13_numberOfTrailingZeros_95d88 rfl rfl (Nat.le_of_ble_eq_true rfl) (Nat.le_of_ble_eq_true rfl) (fun _ e => t_J13_numberOfTrailingZeros_95d88 N (v25 ^^^ ((-1))) S24 _ e) (by decide) (fun v27 S26 hf => ?_)
  refine es_l (pc' := 15) (ls' := [(2, .int v27), (0, .ref (w.2.1 + 29)), (1, .int x1)]) (st' := [.int 64, .int v27]) (fun _ _ k => e_istore_n (ls' := [(2, .int v27), (0, .ref (w.2.1 + 29)), (1, .int x1)]) dX10_add_11 (by decide) rfl (e_iload_n dX10_add_12 0 rfl (e_bipush (v := 64) dX10_add_13 (by decide) k))) ?_
  refine es_br (c := v27 = 64) (tgt := 18) (pf := 20) (st' := []) (fun _ _ a b => e_icmp_ne dX10_add_15 rfl b a) (fun c28 => ?_) (fun c28 => ?_)
  · rw [if_pos c28] at hf
    refine es_l (pc' := 19) (ls' := [(2, .int v27), (0, .ref (w.2.1 + 29)), (1, .int x1)]) (st' := [.int ((-1))]) (fun _ _ k => e_iconst (v := (-1)) dX10_add_18 (by decide) k) ?_
    exact es_ireturn (ty := .int) dX10_add_19 rfl rfl hf
  · rw [if_neg c28] at hf
    refine es_l (pc' := 21) (ls' := [(2, .int v27), (0, .ref (w.2.1 + 29)), (1, .int x1)]) (st' := [.ref (w.2.1 + 29)]) (fun _ _ k => e_aload_n dX10_add_20 1 rfl k) ?_
    refine es_get (v := .ref (w.2.1 + 30)) xc_10 dX10_add_21 fl_X10_9 (by decide) (by decide) (cel_29 _ _ _) rfl ?_
    refine es_l (pc' := 26) (ls' := [(2, .int v27), (0, .ref (w.2.1 + 29)), (1, .int x1)]) (st' := [.int x1, .ref (w.2.1 + 30), .int x1, .ref (w.2.1 + 30)]) (fun _ _ k => e_iload_n dX10_add_24 2 rfl (e_dup2 dX10_add_25 rfl rfl k)) ?_
    obtain ⟨g29, hf⟩ := xg hf
    refine es_lald (v := .long (S26.2.1 30 x1.toNatClampNeg)) dX10_add_26 (by decide) (cel_30 _ _ _) g29 rfl ?_
    refine es_l (pc' := 31) (ls' := [(2, .int v27), (0, .ref (w.2.1 + 29)), (1, .int x1)]) (st' := [.long ((S26.2.1 30 x1.toNatClampNeg) ||| ((1 : Int64) <<< ((v27 : Int32).toInt64 &&& 63))), .int x1, .ref (w.2.1 + 30)]) (fun _ _ k => e_lconst (v := 1) dX10_add_27 (by decide) (e_iload_n dX10_add_28 0 rfl (e_lshl (v := (1 : Int64) <<< ((v27 : Int32).toInt64 &&& 63)) dX10_add_29 rfl (e_lor dX10_add_30 k)))) ?_
    refine es_last dX10_add_31 (by decide) (cel_30 _) g29 ?_
    refine es_l (pc' := 34) (ls' := [(2, .int v27), (0, .ref (w.2.1 + 29)), (1, .int x1)]) (st' := [.ref (w.2.1 + 29), .ref (w.2.1 + 29)]) (fun _ _ k => e_aload_n dX10_add_32 1 rfl (e_dup dX10_add_33 rfl k)) ?_
    refine es_get (v := .int (S26.1 29 3)) xc_10 dX10_add_34 fl_X10_36 (by decide) (by decide) (cel_29 _ _ _) rfl ?_
    refine es_l (pc' := 39) (ls' := [(2, .int v27), (0, .ref (w.2.1 + 29)), (1, .int x1)]) (st' := [.int ((S26.1 29 3) + 1), .ref (w.2.1 + 29)]) (fun _ _ k => e_iconst (v := 1) dX10_add_37 (by decide) (e_iadd dX10_add_38 k)) ?_
    refine es_put xc_10 dX10_add_39 fl_X10_36 (by decide) (by decide) (by decide) (cel_29 _ _ _) rfl rfl rfl rfl ?_
    refine es_l (pc' := 43) (ls' := [(2, .int v27), (0, .ref (w.2.1 + 29)), (1, .int x1)]) (st' := [.ref (w.2.1 + 29)]) (fun _ _ k => e_aload_n dX10_add_42 1 rfl k) ?_
    refine es_get (v := .ref (w.2.1 + 96)) xc_10 dX10_add_43 fl_X10_20 (by decide) (by decide) (cel_29 _ _ _) rfl ?_
    refine es_l (pc' := 48) (ls' := [(2, .int v27), (0, .ref (w.2.1 + 29)), (1, .int x1)]) (st' := [.ref (w.2.1 + 29), .int v27, .ref (w.2.1 + 96)]) (fun _ _ k => e_iload_n dX10_add_46 0 rfl (e_aload_n dX10_add_47 1 rfl k)) ?_
    refine es_get (v := .int ((S26.1 29 3) + 1)) xc_10 dX10_add_48 fl_X10_36 (by decide) (by decide) (cel_29 _ _ _) rfl ?_
    obtain ⟨g30, hf⟩ := xg hf
    refine es_iast dX10_add_51 (by decide) (cel_96 _) g30 ?_
    refine es_l (pc' := 54) (ls' := [(3, .int 0), (2, .int v27), (0, .ref (w.2.1 + 29)), (1, .int x1)]) (st' := []) (fun _ _ k => e_iconst (v := 0) dX10_add_52 (by decide) (e_istore_n (ls' := [(3, .int 0), (2, .int v27), (0, .ref (w.2.1 + 29)), (1, .int x1)]) dX10_add_53 (by decide) rfl k)) ?_
    refine es_sub [2, 1, 0] rfl ?_
    exact t_X10_add_54 N N v27 0 (sI (sI (sJ S26 30 x1.toNatClampNeg ((S26.2.1 30 x1.toNatClampNeg) ||| ((1 : Int64) <<< ((v27 : Int32).toInt64 &&& 63)))) 29 3 ((S26.1 29 3) + 1)) 96 v27.toNatClampNeg ((S26.1 29 3) + 1)) r hf
def f_X2_put_6 (N : Nat)  : Nat → Nat → Int32 → Nat → Int32 → xS → Option xr
  | 0, _, _, _, _, _ => none
  | n + 1, a1, x2, a3, x4, S =>
  if xStep a1 then
  if (S.1 a1 8) ≤ x4 then
    some (.inl none, S)
  else
    if xin x4 151 then
    if xin x2 64 then
    if xReg414 a3 then
    if xin (x4 - (S.1 a1 7)) 6 then
    if xin (S.1 a1 1) 8 then
    if xin (S.1 100 x4.toNatClampNeg) 6 then
    f_X2_put_6 N n a1 x2 a3 (x4 + 1) (sI S (32 + x2.toNatClampNeg) ((S.1 100 x4.toNatClampNeg).toNatClampNeg) ((S.1 a3 ((x4 - (S.1 a1 7)).toNatClampNeg)) &&& (S.1 (20 + (S.1 a1 1).toNatClampNeg) ((S.1 100 x4.toNatClampNeg).toNatClampNeg))))
    else none
    else none
    else none
    else none
    else none
    else none
  else none
set_option maxRecDepth 100000 in
set_option maxHeartbeats 4000000 in
theorem t_X2_put_6 {l : Launch} {w : xW} {g : Nat → xE} (N : Nat)   : ∀ (n : Nat) (a1 : Nat) (x2 : Int32) (a3 : Nat) (x4 : Int32) (S : xS) (r : xr), f_X2_put_6 N  n a1 x2 a3 x4 S = some r → ES l w g M_X2_put 6 [(0, .ref (w.2.1 + 409)), (1, .ref (w.2.1 + a1)), (2, .int x2), (3, .ref (w.2.1 + a3)), (4, .int x4)] [] S r := by
  intro n
  induction n with
  | zero => intro a1 x2 a3 x4 S r hf; cases hf
  | succ n ih =>
    intro a1 x2 a3 x4 S r hf
    rw [f_X2_put_6.eq_2] at hf
    refine es_l (pc' := 9) (ls' := [(0, .ref (w.2.1 + 409)), (1, .ref (w.2.1 + a1)), (2, .int x2), (3, .ref (w.2.1 + a3)), (4, .int x4)]) (st' := [.ref (w.2.1 + a1), .int x4]) (fun _ _ k => e_iload dX2_put_6 4 rfl (e_aload_n dX2_put_8 1 rfl k)) ?_
    obtain ⟨g19, hf⟩ := xg hf
    refine es_get (v := .int (S.1 a1 8)) xc_8 dX2_put_9 fl_X2_138 (by decide) (xStep_lt g19) (cel_st g19 _ _ _) rfl ?_
    refine es_br (c := (S.1 a1 8) ≤ x4) (tgt := 70) (pf := 15) (st' := []) (fun _ _ a b => e_icmp_ge dX2_put_12 rfl a b) (fun c20 => ?_) (fun c20 => ?_)
    · rw [if_pos c20] at hf
      exact es_return dX2_put_70 rfl hf
    · rw [if_neg c20] at hf
      refine es_l (pc' := 16) (ls' := [(0, .ref (w.2.1 + 409)), (1, .ref (w.2.1 + a1)), (2, .int x2), (3, .ref (w.2.1 + a3)), (4, .int x4)]) (st' := [.ref (w.2.1 + 409)]) (fun _ _ k => e_aload_n dX2_put_15 0 rfl k) ?_
      refine es_get (v := .ref (w.2.1 + 97)) xc_2 dX2_put_16 fl_X2_26 (by decide) (by decide) (cel_409 _ _ _) rfl ?_
      refine es_get (v := .ref (w.2.1 + 100)) xc_5 dX2_put_19 fl_X2_155 (by decide) (by decide) (cel_97 _ _ _) rfl ?_
      refine es_l (pc' := 24) (ls' := [(0, .ref (w.2.1 + 409)), (1, .ref (w.2.1 + a1)), (2, .int x2), (3, .ref (w.2.1 + a3)), (4, .int x4)]) (st' := [.int x4, .ref (w.2.1 + 100)]) (fun _ _ k => e_iload dX2_put_22 4 rfl k) ?_
      obtain ⟨g21, hf⟩ := xg hf
      refine es_iald (v := .int (S.1 100 x4.toNatClampNeg)) dX2_put_24 (by decide) (cel_100 _ _ _) g21 rfl ?_
      refine es_l (pc' := 28) (ls' := [(5, .int (S.1 100 x4.toNatClampNeg)), (0, .ref (w.2.1 + 409)), (1, .ref (w.2.1 + a1)), (2, .int x2), (3, .ref (w.2.1 + a3)), (4, .int x4)]) (st' := [.ref (w.2.1 + 409)]) (fun _ _ k => e_istore (ls' := [(5, .int (S.1 100 x4.toNatClampNeg)), (0, .ref (w.2.1 + 409)), (1, .ref (w.2.1 + a1)), (2, .int x2), (3, .ref (w.2.1 + a3)), (4, .int x4)]) dX2_put_25 (by decide) rfl (e_aload_n dX2_put_27 1 rfl k)) ?_
      refine es_get (v := .ref (w.2.1 + 29)) xc_2 dX2_put_28 fl_X2_34 (by decide) (by decide) (cel_409 _ _ _) rfl ?_
      refine es_get (v := .ref (w.2.1 + 31)) xc_10 dX2_put_31 fl_X2_158 (by decide) (by decide) (cel_29 _ _ _) rfl ?_
      refine es_l (pc' := 35) (ls' := [(5, .int (S.1 100 x4.toNatClampNeg)), (0, .ref (w.2.1 + 409)), (1, .ref (w.2.1 + a1)), (2, .int x2), (3, .ref (w.2.1 + a3)), (4, .int x4)]) (st' := [.int x2, .ref (w.2.1 + 31)]) (fun _ _ k => e_iload_n dX2_put_34 3 rfl k) ?_
      obtain ⟨g22, hf⟩ := xg hf
      refine es_aald (v := .ref (w.2.1 + (32 + x2.toNatClampNeg))) rfl dX2_put_35 (by decide) (cel_31 _ _ _) g22 rfl ?_
      refine es_l (pc' := 42) (ls' := [(5, .int (S.1 100 x4.toNatClampNeg)), (0, .ref (w.2.1 + 409)), (1, .ref (w.2.1 + a1)), (2, .int x2), (3, .ref (w.2.1 + a3)), (4, .int x4)]) (st' := [.ref (w.2.1 + a1), .int x4, .ref (w.2.1 + a3), .int (S.1 100 x4.toNatClampNeg), .ref (w.2.1 + (32 + x2.toNatClampNeg))]) (fun _ _ k => e_iload dX2_put_36 0 rfl (e_aload_n dX2_put_38 4 rfl (e_iload dX2_put_39 5 rfl (e_aload_n dX2_put_41 2 rfl k)))) ?_
      refine es_get (v := .int (S.1 a1 7)) xc_8 dX2_put_42 fl_X2_135 (by decide) (xStep_lt g19) (cel_st g19 _ _ _) rfl ?_
      refine es_l (pc' := 46) (ls' := [(5, .int (S.1 100 x4.toNatClampNeg)), (0, .ref (w.2.1 + 409)), (1, .ref (w.2.1 + a1)), (2, .int x2), (3, .ref (w.2.1 + a3)), (4, .int x4)]) (st' := [.int (x4 - (S.1 a1 7)), .ref (w.2.1 + a3), .int (S.1 100 x4.toNatClampNeg), .ref (w.2.1 + (32 + x2.toNatClampNeg))]) (fun _ _ k => e_isub dX2_put_45 k) ?_
      obtain ⟨g23, hf⟩ := xg hf
      obtain ⟨g24, hf⟩ := xg hf
      refine es_iald (v := .int (S.1 a3 ((x4 - (S.1 a1 7)).toNatClampNeg))) dX2_put_46 (xReg414_lt g23) (cel_r414 g23 _ _ _) g24 rfl ?_
      refine es_l (pc' := 48) (ls' := [(5, .int (S.1 100 x4.toNatClampNeg)), (0, .ref (w.2.1 + 409)), (1, .ref (w.2.1 + a1)), (2, .int x2), (3, .ref (w.2.1 + a3)), (4, .int x4)]) (st' := [.ref (w.2.1 + 409), .int (S.1 a3 ((x4 - (S.1 a1 7)).toNatClampNeg)), .int (S.1 100 x4.toNatClampNeg), .ref (w.2.1 + (32 + x2.toNatClampNeg))]) (fun _ _ k => e_aload_n dX2_put_47 1 rfl k) ?_
      refine es_get (v := .ref (w.2.1 + 7)) xc_2 dX2_put_48 fl_X2_30 (by decide) (by decide) (cel_409 _ _ _) rfl ?_
      refine es_get (v := .ref (w.2.1 + 19)) xc_3 dX2_put_51 fl_X2_161 (by decide) (by decide) (cel_7 _ _ _) rfl ?_
      refine es_l (pc' := 55) (ls' := [(5, .int (S.1 100 x4.toNatClampNeg)), (0, .ref (w.2.1 + 409)), (1, .ref (w.2.1 + a1)), (2, .int x2), (3, .ref (w.2.1 + a3)), (4, .int x4)]) (st' := [.ref (w.2.1 + a1), .ref (w.2.1 + 19), .int (S.1 a3 ((x4 - (S.1 a1 7)).toNatClampNeg)), .int (S.1 100 x4.toNatClampNeg), .ref (w.2.1 + (32 + x2.toNatClampNeg))]) (fun _ _ k => e_aload_n dX2_put_54 2 rfl k) ?_
      refine es_get (v := .int (S.1 a1 1)) xc_8 dX2_put_55 fl_X2_96 (by decide) (xStep_lt g19) (cel_st g19 _ _ _) rfl ?_
      obtain ⟨g25, hf⟩ := xg hf
      refine es_aald (v := .ref (w.2.1 + (20 + (S.1 a1 1).toNatClampNeg))) rfl dX2_put_58 (by decide) (cel_19 _ _ _) g25 rfl ?_
      refine es_l (pc' := 61) (ls' := [(5, .int (S.1 100 x4.toNatClampNeg)), (0, .ref (w.2.1 + 409)), (1, .ref (w.2.1 + a1)), (2, .int x2), (3, .ref (w.2.1 + a3)), (4, .int x4)]) (st' := [.int (S.1 100 x4.toNatClampNeg), .ref (w.2.1 + (20 + (S.1 a1 1).toNatClampNeg)), .int (S.1 a3 ((x4 - (S.1 a1 7)).toNatClampNeg)), .int (S.1 100 x4.toNatClampNeg), .ref (w.2.1 + (32 + x2.toNatClampNeg))]) (fun _ _ k => e_iload dX2_put_59 0 rfl k) ?_
      obtain ⟨g26, hf⟩ := xg hf
      refine es_iald (v := .int (S.1 (20 + (S.1 a1 1).toNatClampNeg) ((S.1 100 x4.toNatClampNeg).toNatClampNeg))) dX2_put_61 (xReg20_lt (xReg20_at g25)) (cel_r20 (xReg20_at g25) _ _ _) g26 rfl ?_
      refine es_l (pc' := 63) (ls' := [(5, .int (S.1 100 x4.toNatClampNeg)), (0, .ref (w.2.1 + 409)), (1, .ref (w.2.1 + a1)), (2, .int x2), (3, .ref (w.2.1 + a3)), (4, .int x4)]) (st' := [.int ((S.1 a3 ((x4 - (S.1 a1 7)).toNatClampNeg)) &&& (S.1 (20 + (S.1 a1 1).toNatClampNeg) ((S.1 100 x4.toNatClampNeg).toNatClampNeg))), .int (S.1 100 x4.toNatClampNeg), .ref (w.2.1 + (32 + x2.toNatClampNeg))]) (fun _ _ k => e_iand dX2_put_62 k) ?_
      refine es_iast dX2_put_63 (xReg32_lt (xReg32_at g22)) (cel_r32 (xReg32_at g22) _) g26 ?_
      refine es_l (pc' := 6) (ls' := [(4, .int (x4 + 1)), (5, .int (S.1 100 x4.toNatClampNeg)), (0, .ref (w.2.1 + 409)), (1, .ref (w.2.1 + a1)), (2, .int x2), (3, .ref (w.2.1 + a3))]) (st' := []) (fun _ _ k => e_iinc (v := x4 + 1) (ls' := [(4, .int (x4 + 1)), (5, .int (S.1 100 x4.toNatClampNeg)), (0, .ref (w.2.1 + 409)), (1, .ref (w.2.1 + a1)), (2, .int x2), (3, .ref (w.2.1 + a3))]) dX2_put_64 5 rfl rfl (by decide) rfl (e_goto (tgt := 6) dX2_put_67 rfl k)) ?_
      refine es_sub [2, 3, 4, 5, 0] rfl ?_
      exact ih a1 x2 a3 (x4 + 1) (sI S (32 + x2.toNatClampNeg) ((S.1 100 x4.toNatClampNeg).toNatClampNeg) ((S.1 a3 ((x4 - (S.1 a1 7)).toNatClampNeg)) &&& (S.1 (20 + (S.1 a1 1).toNatClampNeg) ((S.1 100 x4.toNatClampNeg).toNatClampNeg)))) r hf
def f_X2_put (N : Nat) (a1 : Nat) (x2 : Int32) (a3 : Nat) (S : xS) : Option xr :=
  if xStep a1 then
  f_X2_put_6 N N a1 x2 a3 (S.1 a1 7) S
  else none
set_option maxRecDepth 100000 in
set_option maxHeartbeats 4000000 in
theorem t_X2_put {l : Launch} {w : xW} {g : Nat → xE} (N : Nat) (a1 : Nat) (x2 : Int32) (a3 : Nat) (S : xS) (r : xr) (hf : f_X2_put N a1 x2 a3 S = some r) : ES l w g M_X2_put 0 (lv_args 0 [.ref (w.2.1 + 409), .ref (w.2.1 + a1), .int x2, .ref (w.2.1 + a3)]) [] S r := by
  show ES l w g M_X2_put 0 [(0, .ref (w.2.1 + 409)), (1, .ref (w.2.1 + a1)), (2, .int x2), (3, .ref (w.2.1 + a3))] [] S r
  unfold f_X2_put at hf
  refine es_l (pc' := 1) (ls' := [(0, .ref (w.2.1 + 409)), (1, .ref (w.2.1 + a1)), (2, .int x2), (3, .ref (w.2.1 + a3))]) (st' := [.ref (w.2.1 + a1)]) (fun _ _ k => e_aload_n dX2_put_0 1 rfl k) ?_
  obtain ⟨g27, hf⟩ := xg hf
  refine es_get (v := .int (S.1 a1 7)) xc_8 dX2_put_1 fl_X2_135 (by decide) (xStep_lt g27) (cel_st g27 _ _ _) rfl ?_
  refine es_l (pc' := 6) (ls' := [(4, .int (S.1 a1 7)), (0, .ref (w.2.1 + 409)), (1, .ref (w.2.1 + a1)), (2, .int x2), (3, .ref (w.2.1 + a3))]) (st' := []) (fun _ _ k => e_istore (ls' := [(4, .int (S.1 a1 7)), (0, .ref (w.2.1 + 409)), (1, .ref (w.2.1 + a1)), (2, .int x2), (3, .ref (w.2.1 + a3))]) dX2_put_4 (by decide) rfl k) ?_
  refine es_sub [1, 2, 3, 4, 0] rfl ?_
  exact t_X2_put_6 N N a1 x2 a3 (S.1 a1 7) S r hf
def f_X2_insert_81 (N : Nat)  (s0 : Int32) (S : xS) : Option xr :=
  if xbo s0 then
  some (.inl (some (.inl s0)), S)
  else none
set_option maxRecDepth 100000 in
set_option maxHeartbeats 4000000 in
theorem t_X2_insert_81 {l : Launch} {w : xW} {g : Nat → xE} (N : Nat)   (s0 : Int32) (S : xS) (r : xr) (hf : f_X2_insert_81 N  s0 S = some r) : ES l w g M_X2_insert 81 [] [.int s0] S r := by
  unfold f_X2_insert_81 at hf
  obtain ⟨g33, hf⟩ := xg hf
  exact es_ireturn (ty := .boolean) dX2_insert_81 rfl (xbo_n g33) hf
def f_X2_insert_71 (N : Nat)  (x3 : Int32) (S : xS) : Option xr :=
  if x3 = ((-1)) then
    f_X2_insert_81 N 0 S
  else
    f_X2_insert_81 N 1 S
set_option maxRecDepth 100000 in
set_option maxHeartbeats 4000000 in
theorem t_X2_insert_71 {l : Launch} {w : xW} {g : Nat → xE} (N : Nat)   (x3 : Int32) (S : xS) (r : xr) (hf : f_X2_insert_71 N  x3 S = some r) : ES l w g M_X2_insert 71 [(3, .int x3)] [] S r := by
  unfold f_X2_insert_71 at hf
  refine es_l (pc' := 73) (ls' := [(3, .int x3)]) (st' := [.int ((-1)), .int x3]) (fun _ _ k => e_iload_n dX2_insert_71 0 rfl (e_iconst (v := (-1)) dX2_insert_72 (by decide) k)) ?_
  refine es_br (c := x3 = ((-1))) (tgt := 80) (pf := 76) (st' := []) (fun _ _ a b => e_icmp_eq dX2_insert_73 rfl a b) (fun c34 => ?_) (fun c34 => ?_)
  · rw [if_pos c34] at hf
    refine es_l (pc' := 81) (ls' := [(3, .int x3)]) (st' := [.int 0]) (fun _ _ k => e_iconst (v := 0) dX2_insert_80 (by decide) k) ?_
    refine es_sub [] rfl ?_
    exact t_X2_insert_81 N 0 S r hf
  · rw [if_neg c34] at hf
    refine es_l (pc' := 81) (ls' := [(3, .int x3)]) (st' := [.int 1]) (fun _ _ k => e_iconst (v := 1) dX2_insert_76 (by decide) (e_goto (tgt := 81) dX2_insert_77 rfl k)) ?_
    refine es_sub [] rfl ?_
    exact t_X2_insert_81 N 1 S r hf
def f_X2_insert_12 (N : Nat)  : Nat → Nat → Nat → Int32 → xS → Option xr
  | 0, _, _, _, _ => none
  | n + 1, a1, a2, x3, S =>
  if xStep a1 then
  if (S.1 a1 8) ≤ x3 then
    xcI (f_X10_add N (S.1 a1 1) S) (fun v38 S37 =>
    if v38 = ((-1)) then
      f_X2_insert_71 N v38 S37
    else
      xcV (f_X2_put N a1 v38 a2 S37) (fun S40 =>
      f_X2_insert_71 N v38 S40
      )
    )
  else
    if xin x3 151 then
    xcI (f_X2_value N (S.1 101 x3.toNatClampNeg) S) (fun v44 S43 =>
    if xReg414 a2 then
    if xin (x3 - (S.1 a1 7)) 6 then
    f_X2_insert_12 N n a1 a2 (x3 + 1) (sI S43 a2 ((x3 - (S.1 a1 7)).toNatClampNeg) v44)
    else none
    else none
    )
    else none
  else none
set_option maxRecDepth 100000 in
set_option maxHeartbeats 4000000 in
theorem t_X2_insert_12 {l : Launch} {w : xW} {g : Nat → xE} (N : Nat)   : ∀ (n : Nat) (a1 : Nat) (a2 : Nat) (x3 : Int32) (S : xS) (r : xr), f_X2_insert_12 N  n a1 a2 x3 S = some r → ES l w g M_X2_insert 12 [(0, .ref (w.2.1 + 409)), (1, .ref (w.2.1 + a1)), (2, .ref (w.2.1 + a2)), (3, .int x3)] [] S r := by
  intro n
  induction n with
  | zero => intro a1 a2 x3 S r hf; cases hf
  | succ n ih =>
    intro a1 a2 x3 S r hf
    rw [f_X2_insert_12.eq_2] at hf
    refine es_l (pc' := 14) (ls' := [(0, .ref (w.2.1 + 409)), (1, .ref (w.2.1 + a1)), (2, .ref (w.2.1 + a2)), (3, .int x3)]) (st' := [.ref (w.2.1 + a1), .int x3]) (fun _ _ k => e_iload_n dX2_insert_12 3 rfl (e_aload_n dX2_insert_13 1 rfl k)) ?_
    obtain ⟨g35, hf⟩ := xg hf
    refine es_get (v := .int (S.1 a1 8)) xc_8 dX2_insert_14 fl_X2_138 (by decide) (xStep_lt g35) (cel_st g35 _ _ _) rfl ?_
    refine es_br (c := (S.1 a1 8) ≤ x3) (tgt := 47) (pf := 20) (st' := []) (fun _ _ a b => e_icmp_ge dX2_insert_17 rfl a b) (fun c36 => ?_) (fun c36 => ?_)
    · rw [if_pos c36] at hf
      refine es_l (pc' := 48) (ls' := [(0, .ref (w.2.1 + 409)), (1, .ref (w.2.1 + a1)), (2, .ref (w.2.1 + a2)), (3, .int x3)]) (st' := [.ref (w.2.1 + 409)]) (fun _ _ k => e_aload_n dX2_insert_47 0 rfl k) ?_
      refine es_get (v := .ref (w.2.1 + 29)) xc_2 dX2_insert_48 fl_X2_34 (by decide) (by decide) (cel_409 _ _ _) rfl ?_
      refine es_l (pc' := 52) (ls' := [(0, .ref (w.2.1 + 409)), (1, .ref (w.2.1 + a1)), (2, .ref (w.2.1 + a2)), (3, .int x3)]) (st' := [.ref (w.2.1 + a1), .ref (w.2.1 + 29)]) (fun _ _ k => e_aload_n dX2_insert_51 1 rfl k) ?_
      refine es_get (v := .int (S.1 a1 1)) xc_8 dX2_insert_52 fl_X2_96 (by decide) (xStep_lt g35) (cel_st g35 _ _ _) rfl ?_
      refine es_callVI (as := [.int (S.1 a1 1)]) (rest := []) hf xc_10 dX2_insert_55 cs_X2_insert_X10_add ml_X2_144 im_X10_add se_X10_add rfl rfl (Nat.le_of_ble_eq_true rfl) (Nat.le_of_ble_eq_true rfl) (by decide) rfl (cel_29 _ _ _) (fun _ e => t_X10_add N (S.1 a1 1) S _ e) (by decide) (fun v38 S37 hf => ?_)
      refine es_l (pc' := 61) (ls' := [(3, .int v38), (0, .ref (w.2.1 + 409)), (1, .ref (w.2.1 + a1)), (2, .ref (w.2.1 + a2))]) (st' := [.int ((-1)), .int v38]) (fun _ _ k => e_istore_n (ls' := [(3, .int v38), (0, .ref (w.2.1 + 409)), (1, .ref (w.2.1 + a1)), (2, .ref (w.2.1 + a2))]) dX2_insert_58 (by decide) rfl (e_iload_n dX2_insert_59 0 rfl (e_iconst (v := (-1)) dX2_insert_60 (by decide) k))) ?_
      refine es_br (c := v38 = ((-1))) (tgt := 71) (pf := 64) (st' := []) (fun _ _ a b => e_icmp_eq dX2_insert_61 rfl a b) (fun c39 => ?_) (fun c39 => ?_)
      · rw [if_pos c39] at hf
        refine es_sub [0] rfl ?_
        exact t_X2_insert_71 N v38 S37 r hf
      · rw [if_neg c39] at hf
        refine es_l (pc' := 68) (ls' := [(3, .int v38), (0, .ref (w.2.1 + 409)), (1, .ref (w.2.1 + a1)), (2, .ref (w.2.1 + a2))]) (st' := [.ref (w.2.1 + a2), .int v38, .ref (w.2.1 + a1), .ref (w.2.1 + 409)]) (fun _ _ k => e_aload_n dX2_insert_64 1 rfl (e_aload_n dX2_insert_65 2 rfl (e_iload_n dX2_insert_66 0 rfl (e_aload_n dX2_insert_67 3 rfl k)))) ?_
        refine es_callVV (as := [.ref (w.2.1 + a1), .int v38, .ref (w.2.1 + a2)]) (rest := []) hf xc_2 dX2_insert_68 cs_X2_insert_X2_put ml_X2_147 im_X2_put se_X2_put rfl rfl (Nat.le_of_ble_eq_true rfl) (Nat.le_of_ble_eq_true rfl) (by decide) rfl (cel_409 _ _ _) (fun _ e => t_X2_put N a1 v38 a2 S37 _ e) (by decide) (fun S40 hf => ?_)
        refine es_sub [0] rfl ?_
        exact t_X2_insert_71 N v38 S40 r hf
    · rw [if_neg c36] at hf
      refine es_l (pc' := 23) (ls' := [(0, .ref (w.2.1 + 409)), (1, .ref (w.2.1 + a1)), (2, .ref (w.2.1 + a2)), (3, .int x3)]) (st' := [.ref (w.2.1 + a1), .int x3, .ref (w.2.1 + a2)]) (fun _ _ k => e_aload_n dX2_insert_20 2 rfl (e_iload_n dX2_insert_21 3 rfl (e_aload_n dX2_insert_22 1 rfl k))) ?_
      refine es_get (v := .int (S.1 a1 7)) xc_8 dX2_insert_23 fl_X2_135 (by decide) (xStep_lt g35) (cel_st g35 _ _ _) rfl ?_
      refine es_l (pc' := 29) (ls' := [(0, .ref (w.2.1 + 409)), (1, .ref (w.2.1 + a1)), (2, .ref (w.2.1 + a2)), (3, .int x3)]) (st' := [.ref (w.2.1 + 409), .ref (w.2.1 + 409), .int (x3 - (S.1 a1 7)), .ref (w.2.1 + a2)]) (fun _ _ k => e_isub dX2_insert_26 (e_aload_n dX2_insert_27 0 rfl (e_aload_n dX2_insert_28 0 rfl k))) ?_
      refine es_get (v := .ref (w.2.1 + 97)) xc_2 dX2_insert_29 fl_X2_26 (by decide) (by decide) (cel_409 _ _ _) rfl ?_
      refine es_get (v := .ref (w.2.1 + 101)) xc_5 dX2_insert_32 fl_X2_141 (by decide) (by decide) (cel_97 _ _ _) rfl ?_
      refine es_l (pc' := 36) (ls' := [(0, .ref (w.2.1 + 409)), (1, .ref (w.2.1 + a1)), (2, .ref (w.2.1 + a2)), (3, .int x3)]) (st' := [.int x3, .ref (w.2.1 + 101), .ref (w.2.1 + 409), .int (x3 - (S.1 a1 7)), .ref (w.2.1 + a2)]) (fun _ _ k => e_iload_n dX2_insert_35 3 rfl k) ?_
      obtain ⟨g42, hf⟩ := xg hf
      refine es_iald (v := .int (S.1 101 x3.toNatClampNeg)) dX2_insert_36 (by decide) (cel_101 _ _ _) g42 rfl ?_
      refine es_callVI (as := [.int (S.1 101 x3.toNatClampNeg)]) (rest := [.int (x3 - (S.1 a1 7)), .ref (w.2.1 + a2)]) hf xc_2 dX2_insert_37 cs_X2_insert_X2_value ml_X2_90 im_X2_value se_X2_value rfl rfl (Nat.le_of_ble_eq_true rfl) (Nat.le_of_ble_eq_true rfl) (by decide) rfl (cel_409 _ _ _) (fun _ e => t_X2_value N (S.1 101 x3.toNatClampNeg) S _ e) (by decide) (fun v44 S43 hf => ?_)
      obtain ⟨g45, hf⟩ := xg hf
      obtain ⟨g46, hf⟩ := xg hf
      refine es_iast dX2_insert_40 (xReg414_lt g45) (cel_r414 g45 _) g46 ?_
      refine es_l (pc' := 12) (ls' := [(3, .int (x3 + 1)), (0, .ref (w.2.1 + 409)), (1, .ref (w.2.1 + a1)), (2, .ref (w.2.1 + a2))]) (st' := []) (fun _ _ k => e_iinc (v := x3 + 1) (ls' := [(3, .int (x3 + 1)), (0, .ref (w.2.1 + 409)), (1, .ref (w.2.1 + a1)), (2, .ref (w.2.1 + a2))]) dX2_insert_41 3 rfl rfl (by decide) rfl (e_goto (tgt := 12) dX2_insert_44 rfl k)) ?_
      refine es_sub [1, 2, 3, 0] rfl ?_
      exact ih a1 a2 (x3 + 1) (sI S43 a2 ((x3 - (S.1 a1 7)).toNatClampNeg) v44) r hf
def f_X2_insert (N : Nat) (a1 : Nat) (S : xS) : Option xr :=
  if xin 0 64 then
  if xStep a1 then
  f_X2_insert_12 N N a1 (414 + (0 : Int32).toNatClampNeg) (S.1 a1 7) S
  else none
  else none
set_option maxRecDepth 100000 in
set_option maxHeartbeats 4000000 in
theorem t_X2_insert {l : Launch} {w : xW} {g : Nat → xE} (N : Nat) (a1 : Nat) (S : xS) (r : xr) (hf : f_X2_insert N a1 S = some r) : ES l w g M_X2_insert 0 (lv_args 0 [.ref (w.2.1 + 409), .ref (w.2.1 + a1)]) [] S r := by
  show ES l w g M_X2_insert 0 [(0, .ref (w.2.1 + 409)), (1, .ref (w.2.1 + a1))] [] S r
  unfold f_X2_insert at hf
  refine es_l (pc' := 1) (ls' := [(0, .ref (w.2.1 + 409)), (1, .ref (w.2.1 + a1))]) (st' := [.ref (w.2.1 + 409)]) (fun _ _ k => e_aload_n dX2_insert_0 0 rfl k) ?_
  refine es_get (v := .ref (w.2.1 + 413)) xc_2 dX2_insert_1 fl_X2_23 (by decide) (by decide) (cel_409 _ _ _) rfl ?_
  refine es_l (pc' := 5) (ls' := [(0, .ref (w.2.1 + 409)), (1, .ref (w.2.1 + a1))]) (st' := [.int 0, .ref (w.2.1 + 413)]) (fun _ _ k => e_iconst (v := 0) dX2_insert_4 (by decide) k) ?_
  obtain ⟨g47, hf⟩ := xg hf
  refine es_aald (v := .ref (w.2.1 + (414 + (0 : Int32).toNatClampNeg))) rfl dX2_insert_5 (by decide) (cel_413 _ _ _) g47 rfl ?_
  refine es_l (pc' := 8) (ls' := [(2, .ref (w.2.1 + (414 + (0 : Int32).toNatClampNeg))), (0, .ref (w.2.1 + 409)), (1, .ref (w.2.1 + a1))]) (st' := [.ref (w.2.1 + a1)]) (fun _ _ k => e_astore_n (ls' := [(2, .ref (w.2.1 + (414 + (0 : Int32).toNatClampNeg))), (0, .ref (w.2.1 + 409)), (1, .ref (w.2.1 + a1))]) dX2_insert_6 (by decide) rfl (e_aload_n dX2_insert_7 2 rfl k)) ?_
  obtain ⟨g48, hf⟩ := xg hf
  refine es_get (v := .int (S.1 a1 7)) xc_8 dX2_insert_8 fl_X2_135 (by decide) (xStep_lt g48) (cel_st g48 _ _ _) rfl ?_
  refine es_l (pc' := 12) (ls' := [(3, .int (S.1 a1 7)), (2, .ref (w.2.1 + (414 + (0 : Int32).toNatClampNeg))), (0, .ref (w.2.1 + 409)), (1, .ref (w.2.1 + a1))]) (st' := []) (fun _ _ k => e_istore_n (ls' := [(3, .int (S.1 a1 7)), (2, .ref (w.2.1 + (414 + (0 : Int32).toNatClampNeg))), (0, .ref (w.2.1 + 409)), (1, .ref (w.2.1 + a1))]) dX2_insert_11 (by decide) rfl k) ?_
  refine es_sub [2, 3, 1, 0] rfl ?_
  exact t_X2_insert_12 N N a1 (414 + (0 : Int32).toNatClampNeg) (S.1 a1 7) S r hf
def f_X10_free_43 (N : Nat) (k17 : Int64 → Int32 → xS → Option xr) (y2 : Int64) (x4 : Int32) (S : xS) : Option xr :=
  k17 y2 (x4 + 1) S
set_option maxRecDepth 100000 in
set_option maxHeartbeats 4000000 in
theorem t_X10_free_43 {l : Launch} {w : xW} {g : Nat → xE} (N : Nat) (k17 : Int64 → Int32 → xS → Option xr) (hk17 : ∀ (y2 : Int64) (x4 : Int32) (S : xS) (r : xr), k17 y2 x4 S = some r → ES l w g M_X10_free 17 [(0, .ref (w.2.1 + 29)), (2, .long y2), (4, .int x4)] [] S r) (y2 : Int64) (x4 : Int32) (S : xS) (r : xr) (hf : f_X10_free_43 N k17 y2 x4 S = some r) : ES l w g M_X10_free 43 [(0, .ref (w.2.1 + 29)), (2, .long y2), (4, .int x4)] [] S r := by
  unfold f_X10_free_43 at hf
  refine es_l (pc' := 17) (ls' := [(4, .int (x4 + 1)), (0, .ref (w.2.1 + 29)), (2, .long y2)]) (st' := []) (fun _ _ k => e_iinc (v := x4 + 1) (ls' := [(4, .int (x4 + 1)), (0, .ref (w.2.1 + 29)), (2, .long y2)]) dX10_free_43 2 rfl rfl (by decide) rfl (e_goto (tgt := 17) dX10_free_46 rfl k)) ?_
  refine es_sub [1, 2, 0] rfl ?_
  exact hk17 y2 (x4 + 1) S r hf
def f_X10_free_17 (N : Nat)  : Nat → Int64 → Int32 → xS → Option xr
  | 0, _, _, _ => none
  | n + 1, y2, x4, S =>
  if 64 ≤ x4 then
    some (.inl none, S)
  else
    if (lg_cmp ((((y2 : Int64).toUInt64 >>> ((x4 : Int32).toInt64.toUInt64 &&& Int64.toUInt64 63)).toInt64) &&& 1) 0) = 0 then
      f_X10_free_43 N (f_X10_free_17 N n) y2 x4 S
    else
      if xin x4 64 then
      f_X10_free_43 N (f_X10_free_17 N n) y2 x4 (sI S 96 x4.toNatClampNeg 0)
      else none
set_option maxRecDepth 100000 in
set_option maxHeartbeats 4000000 in
theorem t_X10_free_17 {l : Launch} {w : xW} {g : Nat → xE} (N : Nat)   : ∀ (n : Nat) (y2 : Int64) (x4 : Int32) (S : xS) (r : xr), f_X10_free_17 N  n y2 x4 S = some r → ES l w g M_X10_free 17 [(0, .ref (w.2.1 + 29)), (2, .long y2), (4, .int x4)] [] S r := by
  intro n
  induction n with
  | zero => intro y2 x4 S r hf; cases hf
  | succ n ih =>
    intro y2 x4 S r hf
    rw [f_X10_free_17.eq_2] at hf
    refine es_l (pc' := 21) (ls' := [(0, .ref (w.2.1 + 29)), (2, .long y2), (4, .int x4)]) (st' := [.int 64, .int x4]) (fun _ _ k => e_iload dX10_free_17 2 rfl (e_bipush (v := 64) dX10_free_19 (by decide) k)) ?_
    refine es_br (c := 64 ≤ x4) (tgt := 49) (pf := 24) (st' := []) (fun _ _ a b => e_icmp_ge dX10_free_21 rfl a b) (fun c9 => ?_) (fun c9 => ?_)
    · rw [if_pos c9] at hf
      exact es_return dX10_free_49 rfl hf
    · rw [if_neg c9] at hf
      refine es_l (pc' := 32) (ls' := [(0, .ref (w.2.1 + 29)), (2, .long y2), (4, .int x4)]) (st' := [.int (lg_cmp ((((y2 : Int64).toUInt64 >>> ((x4 : Int32).toInt64.toUInt64 &&& Int64.toUInt64 63)).toInt64) &&& 1) 0)]) (fun _ _ k => e_lload_n dX10_free_24 1 rfl (e_iload dX10_free_25 2 rfl (e_lushr (v := ((y2 : Int64).toUInt64 >>> ((x4 : Int32).toInt64.toUInt64 &&& Int64.toUInt64 63)).toInt64) dX10_free_27 rfl (e_lconst (v := 1) dX10_free_28 (by decide) (e_land dX10_free_29 (e_lconst (v := 0) dX10_free_30 (by decide) (e_lcmp dX10_free_31 k))))))) ?_
      refine es_br (c := (lg_cmp ((((y2 : Int64).toUInt64 >>> ((x4 : Int32).toInt64.toUInt64 &&& Int64.toUInt64 63)).toInt64) &&& 1) 0) = 0) (tgt := 43) (pf := 35) (st' := []) (fun _ _ a b => e_if_eq dX10_free_32 rfl a b) (fun c10 => ?_) (fun c10 => ?_)
      · rw [if_pos c10] at hf
        exact t_X10_free_43 N (f_X10_free_17 N n) ih y2 x4 S r hf
      · rw [if_neg c10] at hf
        refine es_l (pc' := 36) (ls' := [(0, .ref (w.2.1 + 29)), (2, .long y2), (4, .int x4)]) (st' := [.ref (w.2.1 + 29)]) (fun _ _ k => e_aload_n dX10_free_35 0 rfl k) ?_
        refine es_get (v := .ref (w.2.1 + 96)) xc_10 dX10_free_36 fl_X10_20 (by decide) (by decide) (cel_29 _ _ _) rfl ?_
        refine es_l (pc' := 42) (ls' := [(0, .ref (w.2.1 + 29)), (2, .long y2), (4, .int x4)]) (st' := [.int 0, .int x4, .ref (w.2.1 + 96)]) (fun _ _ k => e_iload dX10_free_39 2 rfl (e_iconst (v := 0) dX10_free_41 (by decide) k)) ?_
        obtain ⟨g11, hf⟩ := xg hf
        refine es_iast dX10_free_42 (by decide) (cel_96 _) g11 ?_
        exact t_X10_free_43 N (f_X10_free_17 N n) ih y2 x4 (sI S 96 x4.toNatClampNeg 0) r hf
def f_X10_free (N : Nat) (x1 : Int32) (y2 : Int64) (S : xS) : Option xr :=
  if xin x1 8 then
  f_X10_free_17 N N y2 0 (sJ S 30 x1.toNatClampNeg ((S.2.1 30 x1.toNatClampNeg) &&& (y2 ^^^ ((-1)))))
  else none
set_option maxRecDepth 100000 in
set_option maxHeartbeats 4000000 in
theorem t_X10_free {l : Launch} {w : xW} {g : Nat → xE} (N : Nat) (x1 : Int32) (y2 : Int64) (S : xS) (r : xr) (hf : f_X10_free N x1 y2 S = some r) : ES l w g M_X10_free 0 (lv_args 0 [.ref (w.2.1 + 29), .int x1, .long y2]) [] S r := by
  show ES l w g M_X10_free 0 [(0, .ref (w.2.1 + 29)), (1, .int x1), (2, .long y2)] [] S r
  unfold f_X10_free at hf
  refine es_l (pc' := 1) (ls' := [(0, .ref (w.2.1 + 29)), (1, .int x1), (2, .long y2)]) (st' := [.ref (w.2.1 + 29)]) (fun _ _ k => e_aload_n dX10_free_0 0 rfl k) ?_
  refine es_get (v := .ref (w.2.1 + 30)) xc_10 dX10_free_1 fl_X10_9 (by decide) (by decide) (cel_29 _ _ _) rfl ?_
  refine es_l (pc' := 6) (ls' := [(0, .ref (w.2.1 + 29)), (1, .int x1), (2, .long y2)]) (st' := [.int x1, .ref (w.2.1 + 30), .int x1, .ref (w.2.1 + 30)]) (fun _ _ k => e_iload_n dX10_free_4 1 rfl (e_dup2 dX10_free_5 rfl rfl k)) ?_
  obtain ⟨g12, hf⟩ := xg hf
  refine es_lald (v := .long (S.2.1 30 x1.toNatClampNeg)) dX10_free_6 (by decide) (cel_30 _ _ _) g12 rfl ?_
  refine es_l (pc' := 13) (ls' := [(0, .ref (w.2.1 + 29)), (1, .int x1), (2, .long y2)]) (st' := [.long ((S.2.1 30 x1.toNatClampNeg) &&& (y2 ^^^ ((-1)))), .int x1, .ref (w.2.1 + 30)]) (fun _ _ k => e_lload_n dX10_free_7 2 rfl (e_ldc2 dX10_free_8 kj_X10_28 (e_lxor dX10_free_11 (e_land dX10_free_12 k)))) ?_
  refine es_last dX10_free_13 (by decide) (cel_30 _) g12 ?_
  refine es_l (pc' := 17) (ls' := [(4, .int 0), (0, .ref (w.2.1 + 29)), (1, .int x1), (2, .long y2)]) (st' := []) (fun _ _ k => e_iconst (v := 0) dX10_free_14 (by decide) (e_istore (ls' := [(4, .int 0), (0, .ref (w.2.1 + 29)), (1, .int x1), (2, .long y2)]) dX10_free_15 (by decide) rfl k)) ?_
  refine es_sub [1, 3, 0] rfl ?_
  exact t_X10_free_17 N N y2 0 (sJ S 30 x1.toNatClampNeg ((S.2.1 30 x1.toNatClampNeg) &&& (y2 ^^^ ((-1))))) r hf
def f_X2_set_127 (N : Nat) (k95 : Nat → Int64 → Int32 → xS → Option xr) (a1 : Nat) (y2 : Int64) (x4 : Int32) (S : xS) : Option xr :=
  k95 a1 y2 (x4 + 1) S
set_option maxRecDepth 100000 in
set_option maxHeartbeats 4000000 in
theorem t_X2_set_127 {l : Launch} {w : xW} {g : Nat → xE} (N : Nat) (k95 : Nat → Int64 → Int32 → xS → Option xr) (hk95 : ∀ (a1 : Nat) (y2 : Int64) (x4 : Int32) (S : xS) (r : xr), k95 a1 y2 x4 S = some r → ES l w g M_X2_set 95 [(0, .ref (w.2.1 + 409)), (1, .ref (w.2.1 + a1)), (2, .long y2), (4, .int x4)] [] S r) (a1 : Nat) (y2 : Int64) (x4 : Int32) (S : xS) (r : xr) (hf : f_X2_set_127 N k95 a1 y2 x4 S = some r) : ES l w g M_X2_set 127 [(0, .ref (w.2.1 + 409)), (1, .ref (w.2.1 + a1)), (2, .long y2), (4, .int x4)] [] S r := by
  unfold f_X2_set_127 at hf
  refine es_l (pc' := 95) (ls' := [(4, .int (x4 + 1)), (0, .ref (w.2.1 + 409)), (1, .ref (w.2.1 + a1)), (2, .long y2)]) (st' := []) (fun _ _ k => e_iinc (v := x4 + 1) (ls' := [(4, .int (x4 + 1)), (0, .ref (w.2.1 + 409)), (1, .ref (w.2.1 + a1)), (2, .long y2)]) dX2_set_127 3 rfl rfl (by decide) rfl (e_goto (tgt := 95) dX2_set_130 rfl k)) ?_
  refine es_sub [1, 2, 3, 0] rfl ?_
  exact hk95 a1 y2 (x4 + 1) S r hf
def f_X2_set_95 (N : Nat)  : Nat → Nat → Int64 → Int32 → xS → Option xr
  | 0, _, _, _, _ => none
  | n + 1, a1, y2, x4, S =>
  if 64 ≤ x4 then
    some (.inl none, S)
  else
    if (lg_cmp ((((y2 : Int64).toUInt64 >>> ((x4 : Int32).toInt64.toUInt64 &&& Int64.toUInt64 63)).toInt64) &&& 1) 0) = 0 then
      f_X2_set_127 N (f_X2_set_95 N n) a1 y2 x4 S
    else
      if xin x4 64 then
      xcV (f_X2_put N a1 x4 (414 + x4.toNatClampNeg) S) (fun S40 =>
      f_X2_set_127 N (f_X2_set_95 N n) a1 y2 x4 S40
      )
      else none
set_option maxRecDepth 100000 in
set_option maxHeartbeats 4000000 in
theorem t_X2_set_95 {l : Launch} {w : xW} {g : Nat → xE} (N : Nat)   : ∀ (n : Nat) (a1 : Nat) (y2 : Int64) (x4 : Int32) (S : xS) (r : xr), f_X2_set_95 N  n a1 y2 x4 S = some r → ES l w g M_X2_set 95 [(0, .ref (w.2.1 + 409)), (1, .ref (w.2.1 + a1)), (2, .long y2), (4, .int x4)] [] S r := by
  intro n
  induction n with
  | zero => intro a1 y2 x4 S r hf; cases hf
  | succ n ih =>
    intro a1 y2 x4 S r hf
    rw [f_X2_set_95.eq_2] at hf
    refine es_l (pc' := 99) (ls' := [(0, .ref (w.2.1 + 409)), (1, .ref (w.2.1 + a1)), (2, .long y2), (4, .int x4)]) (st' := [.int 64, .int x4]) (fun _ _ k => e_iload dX2_set_95 3 rfl (e_bipush (v := 64) dX2_set_97 (by decide) k)) ?_
    refine es_br (c := 64 ≤ x4) (tgt := 133) (pf := 102) (st' := []) (fun _ _ a b => e_icmp_ge dX2_set_99 rfl a b) (fun c37 => ?_) (fun c37 => ?_)
    · rw [if_pos c37] at hf
      exact es_return dX2_set_133 rfl hf
    · rw [if_neg c37] at hf
      refine es_l (pc' := 110) (ls' := [(0, .ref (w.2.1 + 409)), (1, .ref (w.2.1 + a1)), (2, .long y2), (4, .int x4)]) (st' := [.int (lg_cmp ((((y2 : Int64).toUInt64 >>> ((x4 : Int32).toInt64.toUInt64 &&& Int64.toUInt64 63)).toInt64) &&& 1) 0)]) (fun _ _ k => e_lload_n dX2_set_102 2 rfl (e_iload dX2_set_103 3 rfl (e_lushr (v := ((y2 : Int64).toUInt64 >>> ((x4 : Int32).toInt64.toUInt64 &&& Int64.toUInt64 63)).toInt64) dX2_set_105 rfl (e_lconst (v := 1) dX2_set_106 (by decide) (e_land dX2_set_107 (e_lconst (v := 0) dX2_set_108 (by decide) (e_lcmp dX2_set_109 k))))))) ?_
      refine es_br (c := (lg_cmp ((((y2 : Int64).toUInt64 >>> ((x4 : Int32).toInt64.toUInt64 &&& Int64.toUInt64 63)).toInt64) &&& 1) 0) = 0) (tgt := 127) (pf := 113) (st' := []) (fun _ _ a b => e_if_eq dX2_set_110 rfl a b) (fun c38 => ?_) (fun c38 => ?_)
      · rw [if_pos c38] at hf
        exact t_X2_set_127 N (f_X2_set_95 N n) ih a1 y2 x4 S r hf
      · rw [if_neg c38] at hf
        refine es_l (pc' := 118) (ls' := [(0, .ref (w.2.1 + 409)), (1, .ref (w.2.1 + a1)), (2, .long y2), (4, .int x4)]) (st' := [.ref (w.2.1 + 409), .int x4, .ref (w.2.1 + a1), .ref (w.2.1 + 409)]) (fun _ _ k => e_aload_n dX2_set_113 0 rfl (e_aload_n dX2_set_114 1 rfl (e_iload dX2_set_115 3 rfl (e_aload_n dX2_set_117 0 rfl k)))) ?_
        refine es_get (v := .ref (w.2.1 + 413)) xc_2 dX2_set_118 fl_X2_23 (by decide) (by decide) (cel_409 _ _ _) rfl ?_
        refine es_l (pc' := 123) (ls' := [(0, .ref (w.2.1 + 409)), (1, .ref (w.2.1 + a1)), (2, .long y2), (4, .int x4)]) (st' := [.int x4, .ref (w.2.1 + 413), .int x4, .ref (w.2.1 + a1), .ref (w.2.1 + 409)]) (fun _ _ k => e_iload dX2_set_121 3 rfl k) ?_
        obtain ⟨g39, hf⟩ := xg hf
        refine es_aald (v := .ref (w.2.1 + (414 + x4.toNatClampNeg))) rfl dX2_set_123 (by decide) (cel_413 _ _ _) g39 rfl ?_
        refine es_callVV (as := [.ref (w.2.1 + a1), .int x4, .ref (w.2.1 + (414 + x4.toNatClampNeg))]) (rest := []) hf xc_2 dX2_set_124 cs_X2_set_X2_put ml_X2_147 im_X2_put se_X2_put rfl rfl (Nat.le_of_ble_eq_true rfl) (Nat.le_of_ble_eq_true rfl) (by decide) rfl (cel_409 _ _ _) (fun _ e => t_X2_put N a1 x4 (414 + x4.toNatClampNeg) S _ e) (by decide) (fun S40 hf => ?_)
        exact t_X2_set_127 N (f_X2_set_95 N n) ih a1 y2 x4 S40 r hf
def f_X2_set_86 (N : Nat) (k16 : Nat → Int64 → Int32 → xS → Option xr) (a1 : Nat) (y2 : Int64) (x4 : Int32) (S : xS) : Option xr :=
  k16 a1 y2 (x4 + 1) S
set_option maxRecDepth 100000 in
set_option maxHeartbeats 4000000 in
theorem t_X2_set_86 {l : Launch} {w : xW} {g : Nat → xE} (N : Nat) (k16 : Nat → Int64 → Int32 → xS → Option xr) (hk16 : ∀ (a1 : Nat) (y2 : Int64) (x4 : Int32) (S : xS) (r : xr), k16 a1 y2 x4 S = some r → ES l w g M_X2_set 16 [(0, .ref (w.2.1 + 409)), (1, .ref (w.2.1 + a1)), (2, .long y2), (4, .int x4)] [] S r) (a1 : Nat) (y2 : Int64) (x4 : Int32) (S : xS) (r : xr) (hf : f_X2_set_86 N k16 a1 y2 x4 S = some r) : ES l w g M_X2_set 86 [(0, .ref (w.2.1 + 409)), (1, .ref (w.2.1 + a1)), (2, .long y2), (4, .int x4)] [] S r := by
  unfold f_X2_set_86 at hf
  refine es_l (pc' := 16) (ls' := [(4, .int (x4 + 1)), (0, .ref (w.2.1 + 409)), (1, .ref (w.2.1 + a1)), (2, .long y2)]) (st' := []) (fun _ _ k => e_iinc (v := x4 + 1) (ls' := [(4, .int (x4 + 1)), (0, .ref (w.2.1 + 409)), (1, .ref (w.2.1 + a1)), (2, .long y2)]) dX2_set_86 3 rfl rfl (by decide) rfl (e_goto (tgt := 16) dX2_set_89 rfl k)) ?_
  refine es_sub [1, 2, 3, 0] rfl ?_
  exact hk16 a1 y2 (x4 + 1) S r hf
def f_X2_set_29 (N : Nat) (k16 : Nat → Int64 → Int32 → xS → Option xr) : Nat → Nat → Int64 → Int32 → Int32 → xS → Option xr
  | 0, _, _, _, _, _ => none
  | n + 1, a1, y2, x4, x5, S =>
  if xStep a1 then
  if (S.1 a1 8) ≤ x5 then
    f_X2_set_86 N k16 a1 y2 x4 S
  else
    if (lg_cmp ((((y2 : Int64).toUInt64 >>> ((x4 : Int32).toInt64.toUInt64 &&& Int64.toUInt64 63)).toInt64) &&& 1) 0) = 0 then
      f_X2_set_86 N k16 a1 y2 x4 S
    else
      if xin x4 64 then
      if xin x5 151 then
      xcI (f_X2_within N (S.1 101 x5.toNatClampNeg) x4 S) (fun v48 S47 =>
      if xin (x5 - (S.1 a1 7)) 6 then
      f_X2_set_29 N k16 n a1 y2 x4 (x5 + 1) (sI S47 (414 + x4.toNatClampNeg) ((x5 - (S.1 a1 7)).toNatClampNeg) v48)
      else none
      )
      else none
      else none
  else none
set_option maxRecDepth 100000 in
set_option maxHeartbeats 4000000 in
theorem t_X2_set_29 {l : Launch} {w : xW} {g : Nat → xE} (N : Nat) (k16 : Nat → Int64 → Int32 → xS → Option xr) (hk16 : ∀ (a1 : Nat) (y2 : Int64) (x4 : Int32) (S : xS) (r : xr), k16 a1 y2 x4 S = some r → ES l w g M_X2_set 16 [(0, .ref (w.2.1 + 409)), (1, .ref (w.2.1 + a1)), (2, .long y2), (4, .int x4)] [] S r) : ∀ (n : Nat) (a1 : Nat) (y2 : Int64) (x4 : Int32) (x5 : Int32) (S : xS) (r : xr), f_X2_set_29 N k16 n a1 y2 x4 x5 S = some r → ES l w g M_X2_set 29 [(0, .ref (w.2.1 + 409)), (1, .ref (w.2.1 + a1)), (2, .long y2), (4, .int x4), (5, .int x5)] [] S r := by
  intro n
  induction n with
  | zero => intro a1 y2 x4 x5 S r hf; cases hf
  | succ n ih =>
    intro a1 y2 x4 x5 S r hf
    rw [f_X2_set_29.eq_2] at hf
    refine es_l (pc' := 32) (ls' := [(0, .ref (w.2.1 + 409)), (1, .ref (w.2.1 + a1)), (2, .long y2), (4, .int x4), (5, .int x5)]) (st' := [.ref (w.2.1 + a1), .int x5]) (fun _ _ k => e_iload dX2_set_29 4 rfl (e_aload_n dX2_set_31 1 rfl k)) ?_
    obtain ⟨g42, hf⟩ := xg hf
    refine es_get (v := .int (S.1 a1 8)) xc_8 dX2_set_32 fl_X2_138 (by decide) (xStep_lt g42) (cel_st g42 _ _ _) rfl ?_
    refine es_br (c := (S.1 a1 8) ≤ x5) (tgt := 86) (pf := 38) (st' := []) (fun _ _ a b => e_icmp_ge dX2_set_35 rfl a b) (fun c43 => ?_) (fun c43 => ?_)
    · rw [if_pos c43] at hf
      refine es_sub [0, 1, 2, 3] rfl ?_
      exact t_X2_set_86 N k16 hk16 a1 y2 x4 S r hf
    · rw [if_neg c43] at hf
      refine es_l (pc' := 46) (ls' := [(0, .ref (w.2.1 + 409)), (1, .ref (w.2.1 + a1)), (2, .long y2), (4, .int x4), (5, .int x5)]) (st' := [.int (lg_cmp ((((y2 : Int64).toUInt64 >>> ((x4 : Int32).toInt64.toUInt64 &&& Int64.toUInt64 63)).toInt64) &&& 1) 0)]) (fun _ _ k => e_lload_n dX2_set_38 2 rfl (e_iload dX2_set_39 3 rfl (e_lushr (v := ((y2 : Int64).toUInt64 >>> ((x4 : Int32).toInt64.toUInt64 &&& Int64.toUInt64 63)).toInt64) dX2_set_41 rfl (e_lconst (v := 1) dX2_set_42 (by decide) (e_land dX2_set_43 (e_lconst (v := 0) dX2_set_44 (by decide) (e_lcmp dX2_set_45 k))))))) ?_
      refine es_br (c := (lg_cmp ((((y2 : Int64).toUInt64 >>> ((x4 : Int32).toInt64.toUInt64 &&& Int64.toUInt64 63)).toInt64) &&& 1) 0) = 0) (tgt := 86) (pf := 49) (st' := []) (fun _ _ a b => e_if_eq dX2_set_46 rfl a b) (fun c44 => ?_) (fun c44 => ?_)
      · rw [if_pos c44] at hf
        refine es_sub [0, 1, 2, 3] rfl ?_
        exact t_X2_set_86 N k16 hk16 a1 y2 x4 S r hf
      · rw [if_neg c44] at hf
        refine es_l (pc' := 50) (ls' := [(0, .ref (w.2.1 + 409)), (1, .ref (w.2.1 + a1)), (2, .long y2), (4, .int x4), (5, .int x5)]) (st' := [.ref (w.2.1 + 409)]) (fun _ _ k => e_aload_n dX2_set_49 0 rfl k) ?_
        refine es_get (v := .ref (w.2.1 + 413)) xc_2 dX2_set_50 fl_X2_23 (by decide) (by decide) (cel_409 _ _ _) rfl ?_
        refine es_l (pc' := 55) (ls' := [(0, .ref (w.2.1 + 409)), (1, .ref (w.2.1 + a1)), (2, .long y2), (4, .int x4), (5, .int x5)]) (st' := [.int x4, .ref (w.2.1 + 413)]) (fun _ _ k => e_iload dX2_set_53 3 rfl k) ?_
        obtain ⟨g45, hf⟩ := xg hf
        refine es_aald (v := .ref (w.2.1 + (414 + x4.toNatClampNeg))) rfl dX2_set_55 (by decide) (cel_413 _ _ _) g45 rfl ?_
        refine es_l (pc' := 59) (ls' := [(0, .ref (w.2.1 + 409)), (1, .ref (w.2.1 + a1)), (2, .long y2), (4, .int x4), (5, .int x5)]) (st' := [.ref (w.2.1 + a1), .int x5, .ref (w.2.1 + (414 + x4.toNatClampNeg))]) (fun _ _ k => e_iload dX2_set_56 4 rfl (e_aload_n dX2_set_58 1 rfl k)) ?_
        refine es_get (v := .int (S.1 a1 7)) xc_8 dX2_set_59 fl_X2_135 (by decide) (xStep_lt g42) (cel_st g42 _ _ _) rfl ?_
        refine es_l (pc' := 65) (ls' := [(0, .ref (w.2.1 + 409)), (1, .ref (w.2.1 + a1)), (2, .long y2), (4, .int x4), (5, .int x5)]) (st' := [.ref (w.2.1 + 409), .ref (w.2.1 + 409), .int (x5 - (S.1 a1 7)), .ref (w.2.1 + (414 + x4.toNatClampNeg))]) (fun _ _ k => e_isub dX2_set_62 (e_aload_n dX2_set_63 0 rfl (e_aload_n dX2_set_64 0 rfl k))) ?_
        refine es_get (v := .ref (w.2.1 + 97)) xc_2 dX2_set_65 fl_X2_26 (by decide) (by decide) (cel_409 _ _ _) rfl ?_
        refine es_get (v := .ref (w.2.1 + 101)) xc_5 dX2_set_68 fl_X2_141 (by decide) (by decide) (cel_97 _ _ _) rfl ?_
        refine es_l (pc' := 73) (ls' := [(0, .ref (w.2.1 + 409)), (1, .ref (w.2.1 + a1)), (2, .long y2), (4, .int x4), (5, .int x5)]) (st' := [.int x5, .ref (w.2.1 + 101), .ref (w.2.1 + 409), .int (x5 - (S.1 a1 7)), .ref (w.2.1 + (414 + x4.toNatClampNeg))]) (fun _ _ k => e_iload dX2_set_71 4 rfl k) ?_
        obtain ⟨g46, hf⟩ := xg hf
        refine es_iald (v := .int (S.1 101 x5.toNatClampNeg)) dX2_set_73 (by decide) (cel_101 _ _ _) g46 rfl ?_
        refine es_l (pc' := 76) (ls' := [(0, .ref (w.2.1 + 409)), (1, .ref (w.2.1 + a1)), (2, .long y2), (4, .int x4), (5, .int x5)]) (st' := [.int x4, .int (S.1 101 x5.toNatClampNeg), .ref (w.2.1 + 409), .int (x5 - (S.1 a1 7)), .ref (w.2.1 + (414 + x4.toNatClampNeg))]) (fun _ _ k => e_iload dX2_set_74 3 rfl k) ?_
        refine es_callVI (as := [.int (S.1 101 x5.toNatClampNeg), .int x4]) (rest := [.int (x5 - (S.1 a1 7)), .ref (w.2.1 + (414 + x4.toNatClampNeg))]) hf xc_2 dX2_set_76 cs_X2_set_X2_within ml_X2_151 im_X2_within se_X2_within rfl rfl (Nat.le_of_ble_eq_true rfl) (Nat.le_of_ble_eq_true rfl) (by decide) rfl (cel_409 _ _ _) (fun _ e => t_X2_within N (S.1 101 x5.toNatClampNeg) x4 S _ e) (by decide) (fun v48 S47 hf => ?_)
        obtain ⟨g49, hf⟩ := xg hf
        refine es_iast dX2_set_79 (xReg414_lt (xReg414_at g45)) (cel_r414 (xReg414_at g45) _) g49 ?_
        refine es_l (pc' := 29) (ls' := [(5, .int (x5 + 1)), (0, .ref (w.2.1 + 409)), (1, .ref (w.2.1 + a1)), (2, .long y2), (4, .int x4)]) (st' := []) (fun _ _ k => e_iinc (v := x5 + 1) (ls' := [(5, .int (x5 + 1)), (0, .ref (w.2.1 + 409)), (1, .ref (w.2.1 + a1)), (2, .long y2), (4, .int x4)]) dX2_set_80 4 rfl rfl (by decide) rfl (e_goto (tgt := 29) dX2_set_83 rfl k)) ?_
        refine es_sub [1, 2, 3, 4, 0] rfl ?_
        exact ih a1 y2 x4 (x5 + 1) (sI S47 (414 + x4.toNatClampNeg) ((x5 - (S.1 a1 7)).toNatClampNeg) v48) r hf
def f_X2_set_16 (N : Nat)  : Nat → Nat → Int64 → Int32 → xS → Option xr
  | 0, _, _, _, _ => none
  | n + 1, a1, y2, x4, S =>
  if 64 ≤ x4 then
    f_X2_set_95 N N a1 y2 0 S
  else
    if xStep a1 then
    f_X2_set_29 N (f_X2_set_16 N n) N a1 y2 x4 (S.1 a1 7) S
    else none
set_option maxRecDepth 100000 in
set_option maxHeartbeats 4000000 in
theorem t_X2_set_16 {l : Launch} {w : xW} {g : Nat → xE} (N : Nat)   : ∀ (n : Nat) (a1 : Nat) (y2 : Int64) (x4 : Int32) (S : xS) (r : xr), f_X2_set_16 N  n a1 y2 x4 S = some r → ES l w g M_X2_set 16 [(0, .ref (w.2.1 + 409)), (1, .ref (w.2.1 + a1)), (2, .long y2), (4, .int x4)] [] S r := by
  intro n
  induction n with
  | zero => intro a1 y2 x4 S r hf; cases hf
  | succ n ih =>
    intro a1 y2 x4 S r hf
    rw [f_X2_set_16.eq_2] at hf
    refine es_l (pc' := 20) (ls' := [(0, .ref (w.2.1 + 409)), (1, .ref (w.2.1 + a1)), (2, .long y2), (4, .int x4)]) (st' := [.int 64, .int x4]) (fun _ _ k => e_iload dX2_set_16 3 rfl (e_bipush (v := 64) dX2_set_18 (by decide) k)) ?_
    refine es_br (c := 64 ≤ x4) (tgt := 92) (pf := 23) (st' := []) (fun _ _ a b => e_icmp_ge dX2_set_20 rfl a b) (fun c50 => ?_) (fun c50 => ?_)
    · rw [if_pos c50] at hf
      refine es_l (pc' := 95) (ls' := [(4, .int 0), (0, .ref (w.2.1 + 409)), (1, .ref (w.2.1 + a1)), (2, .long y2)]) (st' := []) (fun _ _ k => e_iconst (v := 0) dX2_set_92 (by decide) (e_istore (ls' := [(4, .int 0), (0, .ref (w.2.1 + 409)), (1, .ref (w.2.1 + a1)), (2, .long y2)]) dX2_set_93 (by decide) rfl k)) ?_
      refine es_sub [1, 2, 3, 0] rfl ?_
      exact t_X2_set_95 N N a1 y2 0 S r hf
    · rw [if_neg c50] at hf
      refine es_l (pc' := 24) (ls' := [(0, .ref (w.2.1 + 409)), (1, .ref (w.2.1 + a1)), (2, .long y2), (4, .int x4)]) (st' := [.ref (w.2.1 + a1)]) (fun _ _ k => e_aload_n dX2_set_23 1 rfl k) ?_
      obtain ⟨g51, hf⟩ := xg hf
      refine es_get (v := .int (S.1 a1 7)) xc_8 dX2_set_24 fl_X2_135 (by decide) (xStep_lt g51) (cel_st g51 _ _ _) rfl ?_
      refine es_l (pc' := 29) (ls' := [(5, .int (S.1 a1 7)), (0, .ref (w.2.1 + 409)), (1, .ref (w.2.1 + a1)), (2, .long y2), (4, .int x4)]) (st' := []) (fun _ _ k => e_istore (ls' := [(5, .int (S.1 a1 7)), (0, .ref (w.2.1 + 409)), (1, .ref (w.2.1 + a1)), (2, .long y2), (4, .int x4)]) dX2_set_27 (by decide) rfl k) ?_
      refine es_sub [1, 2, 3, 4, 0] rfl ?_
      exact t_X2_set_29 N (f_X2_set_16 N n) ih N a1 y2 x4 (S.1 a1 7) S r hf
def f_X2_set (N : Nat) (a1 : Nat) (S : xS) : Option xr :=
  if xStep a1 then
  xcJ (f_X2_found N (S.1 a1 1) (S.1 a1 5) S) (fun v54 S53 =>
  f_X2_set_16 N N a1 v54 0 S53
  )
  else none
set_option maxRecDepth 100000 in
set_option maxHeartbeats 4000000 in
theorem t_X2_set {l : Launch} {w : xW} {g : Nat → xE} (N : Nat) (a1 : Nat) (S : xS) (r : xr) (hf : f_X2_set N a1 S = some r) : ES l w g M_X2_set 0 (lv_args 0 [.ref (w.2.1 + 409), .ref (w.2.1 + a1)]) [] S r := by
  show ES l w g M_X2_set 0 [(0, .ref (w.2.1 + 409)), (1, .ref (w.2.1 + a1))] [] S r
  unfold f_X2_set at hf
  refine es_l (pc' := 2) (ls' := [(0, .ref (w.2.1 + 409)), (1, .ref (w.2.1 + a1))]) (st' := [.ref (w.2.1 + a1), .ref (w.2.1 + 409)]) (fun _ _ k => e_aload_n dX2_set_0 0 rfl (e_aload_n dX2_set_1 1 rfl k)) ?_
  obtain ⟨g52, hf⟩ := xg hf
  refine es_get (v := .int (S.1 a1 1)) xc_8 dX2_set_2 fl_X2_96 (by decide) (xStep_lt g52) (cel_st g52 _ _ _) rfl ?_
  refine es_l (pc' := 6) (ls' := [(0, .ref (w.2.1 + 409)), (1, .ref (w.2.1 + a1))]) (st' := [.ref (w.2.1 + a1), .int (S.1 a1 1), .ref (w.2.1 + 409)]) (fun _ _ k => e_aload_n dX2_set_5 1 rfl k) ?_
  refine es_get (v := .int (S.1 a1 5)) xc_8 dX2_set_6 fl_X2_99 (by decide) (xStep_lt g52) (cel_st g52 _ _ _) rfl ?_
  refine es_callVJ (as := [.int (S.1 a1 1), .int (S.1 a1 5)]) (rest := []) hf xc_2 dX2_set_9 cs_X2_set_X2_found ml_X2_102 im_X2_found se_X2_found rfl rfl (Nat.le_of_ble_eq_true rfl) (Nat.le_of_ble_eq_true rfl) (by decide) rfl (cel_409 _ _ _) (fun _ e => t_X2_found N (S.1 a1 1) (S.1 a1 5) S _ e) (by decide) (fun v54 S53 hf => ?_)
  refine es_l (pc' := 16) (ls' := [(4, .int 0), (2, .long v54), (0, .ref (w.2.1 + 409)), (1, .ref (w.2.1 + a1))]) (st' := []) (fun _ _ k => e_lstore_n (ls' := [(2, .long v54), (0, .ref (w.2.1 + 409)), (1, .ref (w.2.1 + a1))]) dX2_set_12 (by decide) rfl (e_iconst (v := 0) dX2_set_13 (by decide) (e_istore (ls' := [(4, .int 0), (2, .long v54), (0, .ref (w.2.1 + 409)), (1, .ref (w.2.1 + a1))]) dX2_set_14 (by decide) rfl k))) ?_
  refine es_sub [2, 3, 1, 0] rfl ?_
  exact t_X2_set_16 N N a1 v54 0 S53 r hf
def f_X2_change_50 (N : Nat)   (S : xS) : Option xr :=
  some (.inl none, S)
set_option maxRecDepth 100000 in
set_option maxHeartbeats 4000000 in
theorem t_X2_change_50 {l : Launch} {w : xW} {g : Nat → xE} (N : Nat)    (S : xS) (r : xr) (hf : f_X2_change_50 N   S = some r) : ES l w g M_X2_change 50 [] [] S r := by
  unfold f_X2_change_50 at hf
  exact es_return dX2_change_50 rfl hf
def f_X2_change (N : Nat) (a1 : Nat) (x2 : Int32) (S : xS) : Option xr :=
  if xStep a1 then
  xcI (f_X0_at N (S.1 a1 3) S) (fun v17 S16 =>
  if v17 = ((-1)) then
    f_X2_change_50 N S16
  else
    if xin v17 64 then
    if xin (S16.1 a1 1) 8 then
    if xin (S16.1 a1 2) 6 then
    f_X2_change_50 N (sI S16 (32 + v17.toNatClampNeg) ((S16.1 a1 2).toNatClampNeg) (x2 &&& (S16.1 (20 + (S16.1 a1 1).toNatClampNeg) ((S16.1 a1 2).toNatClampNeg))))
    else none
    else none
    else none
  )
  else none
set_option maxRecDepth 100000 in
set_option maxHeartbeats 4000000 in
theorem t_X2_change {l : Launch} {w : xW} {g : Nat → xE} (N : Nat) (a1 : Nat) (x2 : Int32) (S : xS) (r : xr) (hf : f_X2_change N a1 x2 S = some r) : ES l w g M_X2_change 0 (lv_args 0 [.ref (w.2.1 + 409), .ref (w.2.1 + a1), .int x2]) [] S r := by
  show ES l w g M_X2_change 0 [(0, .ref (w.2.1 + 409)), (1, .ref (w.2.1 + a1)), (2, .int x2)] [] S r
  unfold f_X2_change at hf
  refine es_l (pc' := 1) (ls' := [(0, .ref (w.2.1 + 409)), (1, .ref (w.2.1 + a1)), (2, .int x2)]) (st' := [.ref (w.2.1 + 409)]) (fun _ _ k => e_aload_n dX2_change_0 0 rfl k) ?_
  refine es_get (v := .ref (w.2.1 + 478)) xc_2 dX2_change_1 fl_X2_43 (by decide) (by decide) (cel_409 _ _ _) rfl ?_
  refine es_l (pc' := 5) (ls' := [(0, .ref (w.2.1 + 409)), (1, .ref (w.2.1 + a1)), (2, .int x2)]) (st' := [.ref (w.2.1 + a1), .ref (w.2.1 + 478)]) (fun _ _ k => e_aload_n dX2_change_4 1 rfl k) ?_
  obtain ⟨g15, hf⟩ := xg hf
  refine es_get (v := .int (S.1 a1 3)) xc_8 dX2_change_5 fl_X2_77 (by decide) (xStep_lt g15) (cel_st g15 _ _ _) rfl ?_
  refine es_callVI (as := [.int (S.1 a1 3)]) (rest := []) hf xc_0 dX2_change_8 cs_X2_change_X0_at ml_X2_166 im_X0_at se_X0_at rfl rfl (Nat.le_of_ble_eq_true rfl) (Nat.le_of_ble_eq_true rfl) (by decide) rfl (cel_478 _ _ _) (fun _ e => t_X0_at N (S.1 a1 3) S _ e) (by decide) (fun v17 S16 hf => ?_)
  refine es_l (pc' := 14) (ls' := [(3, .int v17), (0, .ref (w.2.1 + 409)), (1, .ref (w.2.1 + a1)), (2, .int x2)]) (st' := [.int ((-1)), .int v17]) (fun _ _ k => e_istore_n (ls' := [(3, .int v17), (0, .ref (w.2.1 + 409)), (1, .ref (w.2.1 + a1)), (2, .int x2)]) dX2_change_11 (by decide) rfl (e_iload_n dX2_change_12 0 rfl (e_iconst (v := (-1)) dX2_change_13 (by decide) k))) ?_
  refine es_br (c := v17 = ((-1))) (tgt := 50) (pf := 17) (st' := []) (fun _ _ a b => e_icmp_eq dX2_change_14 rfl a b) (fun c18 => ?_) (fun c18 => ?_)
  · rw [if_pos c18] at hf
    refine es_sub [] rfl ?_
    exact t_X2_change_50 N S16 r hf
  · rw [if_neg c18] at hf
    refine es_l (pc' := 18) (ls' := [(3, .int v17), (0, .ref (w.2.1 + 409)), (1, .ref (w.2.1 + a1)), (2, .int x2)]) (st' := [.ref (w.2.1 + 409)]) (fun _ _ k => e_aload_n dX2_change_17 1 rfl k) ?_
    refine es_get (v := .ref (w.2.1 + 29)) xc_2 dX2_change_18 fl_X2_34 (by decide) (by decide) (cel_409 _ _ _) rfl ?_
    refine es_get (v := .ref (w.2.1 + 31)) xc_10 dX2_change_21 fl_X2_158 (by decide) (by decide) (cel_29 _ _ _) rfl ?_
    refine es_l (pc' := 25) (ls' := [(3, .int v17), (0, .ref (w.2.1 + 409)), (1, .ref (w.2.1 + a1)), (2, .int x2)]) (st' := [.int v17, .ref (w.2.1 + 31)]) (fun _ _ k => e_iload_n dX2_change_24 0 rfl k) ?_
    obtain ⟨g19, hf⟩ := xg hf
    refine es_aald (v := .ref (w.2.1 + (32 + v17.toNatClampNeg))) rfl dX2_change_25 (by decide) (cel_31 _ _ _) g19 rfl ?_
    refine es_l (pc' := 27) (ls' := [(3, .int v17), (0, .ref (w.2.1 + 409)), (1, .ref (w.2.1 + a1)), (2, .int x2)]) (st' := [.ref (w.2.1 + a1), .ref (w.2.1 + (32 + v17.toNatClampNeg))]) (fun _ _ k => e_aload_n dX2_change_26 2 rfl k) ?_
    refine es_get (v := .int (S16.1 a1 2)) xc_8 dX2_change_27 fl_X2_121 (by decide) (xStep_lt g15) (cel_st g15 _ _ _) rfl ?_
    refine es_l (pc' := 32) (ls' := [(3, .int v17), (0, .ref (w.2.1 + 409)), (1, .ref (w.2.1 + a1)), (2, .int x2)]) (st' := [.ref (w.2.1 + 409), .int x2, .int (S16.1 a1 2), .ref (w.2.1 + (32 + v17.toNatClampNeg))]) (fun _ _ k => e_iload_n dX2_change_30 3 rfl (e_aload_n dX2_change_31 1 rfl k)) ?_
    refine es_get (v := .ref (w.2.1 + 7)) xc_2 dX2_change_32 fl_X2_30 (by decide) (by decide) (cel_409 _ _ _) rfl ?_
    refine es_get (v := .ref (w.2.1 + 19)) xc_3 dX2_change_35 fl_X2_161 (by decide) (by decide) (cel_7 _ _ _) rfl ?_
    refine es_l (pc' := 39) (ls' := [(3, .int v17), (0, .ref (w.2.1 + 409)), (1, .ref (w.2.1 + a1)), (2, .int x2)]) (st' := [.ref (w.2.1 + a1), .ref (w.2.1 + 19), .int x2, .int (S16.1 a1 2), .ref (w.2.1 + (32 + v17.toNatClampNeg))]) (fun _ _ k => e_aload_n dX2_change_38 2 rfl k) ?_
    refine es_get (v := .int (S16.1 a1 1)) xc_8 dX2_change_39 fl_X2_96 (by decide) (xStep_lt g15) (cel_st g15 _ _ _) rfl ?_
    obtain ⟨g20, hf⟩ := xg hf
    refine es_aald (v := .ref (w.2.1 + (20 + (S16.1 a1 1).toNatClampNeg))) rfl dX2_change_42 (by decide) (cel_19 _ _ _) g20 rfl ?_
    refine es_l (pc' := 44) (ls' := [(3, .int v17), (0, .ref (w.2.1 + 409)), (1, .ref (w.2.1 + a1)), (2, .int x2)]) (st' := [.ref (w.2.1 + a1), .ref (w.2.1 + (20 + (S16.1 a1 1).toNatClampNeg)), .int x2, .int (S16.1 a1 2), .ref (w.2.1 + (32 + v17.toNatClampNeg))]) (fun _ _ k => e_aload_n dX2_change_43 2 rfl k) ?_
    refine es_get (v := .int (S16.1 a1 2)) xc_8 dX2_change_44 fl_X2_121 (by decide) (xStep_lt g15) (cel_st g15 _ _ _) rfl ?_
    obtain ⟨g21, hf⟩ := xg hf
    refine es_iald (v := .int (S16.1 (20 + (S16.1 a1 1).toNatClampNeg) ((S16.1 a1 2).toNatClampNeg))) dX2_change_47 (xReg20_lt (xReg20_at g20)) (cel_r20 (xReg20_at g20) _ _ _) g21 rfl ?_
    refine es_l (pc' := 49) (ls' := [(3, .int v17), (0, .ref (w.2.1 + 409)), (1, .ref (w.2.1 + a1)), (2, .int x2)]) (st' := [.int (x2 &&& (S16.1 (20 + (S16.1 a1 1).toNatClampNeg) ((S16.1 a1 2).toNatClampNeg))), .int (S16.1 a1 2), .ref (w.2.1 + (32 + v17.toNatClampNeg))]) (fun _ _ k => e_iand dX2_change_48 k) ?_
    refine es_iast dX2_change_49 (xReg32_lt (xReg32_at g19)) (cel_r32 (xReg32_at g19) _) g21 ?_
    refine es_sub [] rfl ?_
    exact t_X2_change_50 N (sI S16 (32 + v17.toNatClampNeg) ((S16.1 a1 2).toNatClampNeg) (x2 &&& (S16.1 (20 + (S16.1 a1 1).toNatClampNeg) ((S16.1 a1 2).toNatClampNeg)))) r hf
def f_X2_remove_31 (N : Nat)   (S : xS) : Option xr :=
  some (.inl none, S)
set_option maxRecDepth 100000 in
set_option maxHeartbeats 4000000 in
theorem t_X2_remove_31 {l : Launch} {w : xW} {g : Nat → xE} (N : Nat)    (S : xS) (r : xr) (hf : f_X2_remove_31 N   S = some r) : ES l w g M_X2_remove 31 [] [] S r := by
  unfold f_X2_remove_31 at hf
  exact es_return dX2_remove_31 rfl hf
def f_X2_remove (N : Nat) (a1 : Nat) (S : xS) : Option xr :=
  if xStep a1 then
  xcI (f_X0_at N (S.1 a1 3) S) (fun v15 S14 =>
  if v15 = ((-1)) then
    f_X2_remove_31 N S14
  else
    xcV (f_X10_free N (S14.1 a1 1) ((1 : Int64) <<< ((v15 : Int32).toInt64 &&& 63)) S14) (fun S17 =>
    f_X2_remove_31 N S17
    )
  )
  else none
set_option maxRecDepth 100000 in
set_option maxHeartbeats 4000000 in
theorem t_X2_remove {l : Launch} {w : xW} {g : Nat → xE} (N : Nat) (a1 : Nat) (S : xS) (r : xr) (hf : f_X2_remove N a1 S = some r) : ES l w g M_X2_remove 0 (lv_args 0 [.ref (w.2.1 + 409), .ref (w.2.1 + a1)]) [] S r := by
  show ES l w g M_X2_remove 0 [(0, .ref (w.2.1 + 409)), (1, .ref (w.2.1 + a1))] [] S r
  unfold f_X2_remove at hf
  refine es_l (pc' := 1) (ls' := [(0, .ref (w.2.1 + 409)), (1, .ref (w.2.1 + a1))]) (st' := [.ref (w.2.1 + 409)]) (fun _ _ k => e_aload_n dX2_remove_0 0 rfl k) ?_
  refine es_get (v := .ref (w.2.1 + 478)) xc_2 dX2_remove_1 fl_X2_43 (by decide) (by decide) (cel_409 _ _ _) rfl ?_
  refine es_l (pc' := 5) (ls' := [(0, .ref (w.2.1 + 409)), (1, .ref (w.2.1 + a1))]) (st' := [.ref (w.2.1 + a1), .ref (w.2.1 + 478)]) (fun _ _ k => e_aload_n dX2_remove_4 1 rfl k) ?_
  obtain ⟨g13, hf⟩ := xg hf
  refine es_get (v := .int (S.1 a1 3)) xc_8 dX2_remove_5 fl_X2_77 (by decide) (xStep_lt g13) (cel_st g13 _ _ _) rfl ?_
  refine es_callVI (as := [.int (S.1 a1 3)]) (rest := []) hf xc_0 dX2_remove_8 cs_X2_remove_X0_at ml_X2_166 im_X0_at se_X0_at rfl rfl (Nat.le_of_ble_eq_true rfl) (Nat.le_of_ble_eq_true rfl) (by decide) rfl (cel_478 _ _ _) (fun _ e => t_X0_at N (S.1 a1 3) S _ e) (by decide) (fun v15 S14 hf => ?_)
  refine es_l (pc' := 14) (ls' := [(2, .int v15), (0, .ref (w.2.1 + 409)), (1, .ref (w.2.1 + a1))]) (st' := [.int ((-1)), .int v15]) (fun _ _ k => e_istore_n (ls' := [(2, .int v15), (0, .ref (w.2.1 + 409)), (1, .ref (w.2.1 + a1))]) dX2_remove_11 (by decide) rfl (e_iload_n dX2_remove_12 0 rfl (e_iconst (v := (-1)) dX2_remove_13 (by decide) k))) ?_
  refine es_br (c := v15 = ((-1))) (tgt := 31) (pf := 17) (st' := []) (fun _ _ a b => e_icmp_eq dX2_remove_14 rfl a b) (fun c16 => ?_) (fun c16 => ?_)
  · rw [if_pos c16] at hf
    refine es_sub [] rfl ?_
    exact t_X2_remove_31 N S14 r hf
  · rw [if_neg c16] at hf
    refine es_l (pc' := 18) (ls' := [(2, .int v15), (0, .ref (w.2.1 + 409)), (1, .ref (w.2.1 + a1))]) (st' := [.ref (w.2.1 + 409)]) (fun _ _ k => e_aload_n dX2_remove_17 1 rfl k) ?_
    refine es_get (v := .ref (w.2.1 + 29)) xc_2 dX2_remove_18 fl_X2_34 (by decide) (by decide) (cel_409 _ _ _) rfl ?_
    refine es_l (pc' := 22) (ls' := [(2, .int v15), (0, .ref (w.2.1 + 409)), (1, .ref (w.2.1 + a1))]) (st' := [.ref (w.2.1 + a1), .ref (w.2.1 + 29)]) (fun _ _ k => e_aload_n dX2_remove_21 2 rfl k) ?_
    refine es_get (v := .int (S14.1 a1 1)) xc_8 dX2_remove_22 fl_X2_96 (by decide) (xStep_lt g13) (cel_st g13 _ _ _) rfl ?_
    refine es_l (pc' := 28) (ls' := [(2, .int v15), (0, .ref (w.2.1 + 409)), (1, .ref (w.2.1 + a1))]) (st' := [.long ((1 : Int64) <<< ((v15 : Int32).toInt64 &&& 63)), .int (S14.1 a1 1), .ref (w.2.1 + 29)]) (fun _ _ k => e_lconst (v := 1) dX2_remove_25 (by decide) (e_iload_n dX2_remove_26 0 rfl (e_lshl (v := (1 : Int64) <<< ((v15 : Int32).toInt64 &&& 63)) dX2_remove_27 rfl k))) ?_
    refine es_callVV (as := [.int (S14.1 a1 1), .long ((1 : Int64) <<< ((v15 : Int32).toInt64 &&& 63))]) (rest := []) hf xc_10 dX2_remove_28 cs_X2_remove_X10_free ml_X2_106 im_X10_free se_X10_free rfl rfl (Nat.le_of_ble_eq_true rfl) (Nat.le_of_ble_eq_true rfl) (by decide) rfl (cel_29 _ _ _) (fun _ e => t_X10_free N (S14.1 a1 1) ((1 : Int64) <<< ((v15 : Int32).toInt64 &&& 63)) S14 _ e) (by decide) (fun S17 hf => ?_)
    refine es_sub [] rfl ?_
    exact t_X2_remove_31 N S17 r hf
def f_X2_act_213 (N : Nat)   (S : xS) : Option xr :=
  some (.inl none, S)
set_option maxRecDepth 100000 in
set_option maxHeartbeats 4000000 in
theorem t_X2_act_213 {l : Launch} {w : xW} {g : Nat → xE} (N : Nat)    (S : xS) (r : xr) (hf : f_X2_act_213 N   S = some r) : ES l w g M_X2_act 213 [] [] S r := by
  unfold f_X2_act_213 at hf
  exact es_return dX2_act_213 rfl hf
def f_X2_act (N : Nat) (a1 : Nat) (S : xS) : Option xr :=
  if xStep a1 then
  if (S.1 a1 0 : Int32).toInt ∈ [(3 : Int)] then
    xcJ (f_X2_found N (S.1 a1 1) (S.1 a1 5) S) (fun v64 S63 =>
    xcV (f_X10_free N (S.1 a1 1) v64 S63) (fun S65 =>
    f_X2_act_213 N S65
    )
    )
  else
  if (S.1 a1 0 : Int32).toInt ∈ [(5 : Int)] then
    xcV (f_X2_set N a1 S) (fun S68 =>
    f_X2_act_213 N S68
    )
  else
  if (S.1 a1 0 : Int32).toInt ∈ [(6 : Int)] then
    xcI (f_X2_value N (S.1 a1 6) S) (fun v72 S71 =>
    if xin (S.1 a1 4) 20 then
    f_X2_act_213 N (sI S71 410 ((S.1 a1 4).toNatClampNeg) v72)
    else none
    )
  else
  if (S.1 a1 0 : Int32).toInt ∈ [(7 : Int)] then
    xcI (f_X2_value N (S.1 a1 6) S) (fun v76 S75 =>
    if xin ((S.1 409 8) - (S.1 409 8) / 64 * 64) 64 then
    f_X2_act_213 N (sI (sI S75 411 (((S.1 409 8) - (S.1 409 8) / 64 * 64).toNatClampNeg) v76) 409 8 ((S75.1 409 8) + 1))
    else none
    )
  else
  if (S.1 a1 0 : Int32).toInt ∈ [(8 : Int)] then
    xcJ (f_X2_found N (S.1 a1 1) (S.1 a1 5) S) (fun v80 S79 =>
    xcV (f_X0_begin N (S.1 a1 3) v80 (S79.1 a1 2) S79) (fun S81 =>
    f_X2_act_213 N S81
    )
    )
  else
  if (S.1 a1 0 : Int32).toInt ∈ [(13 : Int)] then
    xcV (f_X2_remove N a1 S) (fun S84 =>
    f_X2_act_213 N S84
    )
  else
  if (S.1 a1 0 : Int32).toInt ∈ [(50 : Int)] then
    xcI (f_X2_value N (S.1 a1 6) S) (fun v88 S87 =>
    xcV (f_X2_change N a1 v88 S87) (fun S89 =>
    f_X2_act_213 N S89
    )
    )
  else
  f_X2_act_213 N S
  else none
set_option maxRecDepth 100000 in
set_option maxHeartbeats 4000000 in
theorem t_X2_act {l : Launch} {w : xW} {g : Nat → xE} (N : Nat) (a1 : Nat) (S : xS) (r : xr) (hf : f_X2_act N a1 S = some r) : ES l w g M_X2_act 0 (lv_args 0 [.ref (w.2.1 + 409), .ref (w.2.1 + a1)]) [] S r := by
  show ES l w g M_X2_act 0 [(0, .ref (w.2.1 + 409)), (1, .ref (w.2.1 + a1))] [] S r
  unfold f_X2_act at hf
  refine es_l (pc' := 1) (ls' := [(0, .ref (w.2.1 + 409)), (1, .ref (w.2.1 + a1))]) (st' := [.ref (w.2.1 + a1)]) (fun _ _ k => e_aload_n dX2_act_0 1 rfl k) ?_
  obtain ⟨g61, hf⟩ := xg hf
  refine es_get (v := .int (S.1 a1 0)) xc_8 dX2_act_1 fl_X2_64 (by decide) (xStep_lt g61) (cel_st g61 _ _ _) rfl ?_
  by_cases c62 : (S.1 a1 0 : Int32).toInt ∈ [(3 : Int)]
  · rw [if_pos c62] at hf
    refine es_l (pc' := 72) (ls' := [(0, .ref (w.2.1 + 409)), (1, .ref (w.2.1 + a1))]) (st' := []) (fun _ _ k => e_lookC (off := 68) dX2_act_4 c62 (by decide) rfl k) ?_
    refine es_l (pc' := 73) (ls' := [(0, .ref (w.2.1 + 409)), (1, .ref (w.2.1 + a1))]) (st' := [.ref (w.2.1 + 409)]) (fun _ _ k => e_aload_n dX2_act_72 0 rfl k) ?_
    refine es_get (v := .ref (w.2.1 + 29)) xc_2 dX2_act_73 fl_X2_34 (by decide) (by decide) (cel_409 _ _ _) rfl ?_
    refine es_l (pc' := 77) (ls' := [(0, .ref (w.2.1 + 409)), (1, .ref (w.2.1 + a1))]) (st' := [.ref (w.2.1 + a1), .ref (w.2.1 + 29)]) (fun _ _ k => e_aload_n dX2_act_76 1 rfl k) ?_
    refine es_get (v := .int (S.1 a1 1)) xc_8 dX2_act_77 fl_X2_96 (by decide) (xStep_lt g61) (cel_st g61 _ _ _) rfl ?_
    refine es_l (pc' := 82) (ls' := [(0, .ref (w.2.1 + 409)), (1, .ref (w.2.1 + a1))]) (st' := [.ref (w.2.1 + a1), .ref (w.2.1 + 409), .int (S.1 a1 1), .ref (w.2.1 + 29)]) (fun _ _ k => e_aload_n dX2_act_80 0 rfl (e_aload_n dX2_act_81 1 rfl k)) ?_
    refine es_get (v := .int (S.1 a1 1)) xc_8 dX2_act_82 fl_X2_96 (by decide) (xStep_lt g61) (cel_st g61 _ _ _) rfl ?_
    refine es_l (pc' := 86) (ls' := [(0, .ref (w.2.1 + 409)), (1, .ref (w.2.1 + a1))]) (st' := [.ref (w.2.1 + a1), .int (S.1 a1 1), .ref (w.2.1 + 409), .int (S.1 a1 1), .ref (w.2.1 + 29)]) (fun _ _ k => e_aload_n dX2_act_85 1 rfl k) ?_
    refine es_get (v := .int (S.1 a1 5)) xc_8 dX2_act_86 fl_X2_99 (by decide) (xStep_lt g61) (cel_st g61 _ _ _) rfl ?_
    refine es_callVJ (as := [.int (S.1 a1 1), .int (S.1 a1 5)]) (rest := [.int (S.1 a1 1), .ref (w.2.1 + 29)]) hf xc_2 dX2_act_89 cs_X2_act_X2_found ml_X2_102 im_X2_found se_X2_found rfl rfl (Nat.le_of_ble_eq_true rfl) (Nat.le_of_ble_eq_true rfl) (by decide) rfl (cel_409 _ _ _) (fun _ e => t_X2_found N (S.1 a1 1) (S.1 a1 5) S _ e) (by decide) (fun v64 S63 hf => ?_)
    refine es_callVV (as := [.int (S.1 a1 1), .long v64]) (rest := []) hf xc_10 dX2_act_92 cs_X2_act_X10_free ml_X2_106 im_X10_free se_X10_free rfl rfl (Nat.le_of_ble_eq_true rfl) (Nat.le_of_ble_eq_true rfl) (by decide) rfl (cel_29 _ _ _) (fun _ e => t_X10_free N (S.1 a1 1) v64 S63 _ e) (by decide) (fun S65 hf => ?_)
    refine es_l (pc' := 213) (ls' := [(0, .ref (w.2.1 + 409)), (1, .ref (w.2.1 + a1))]) (st' := []) (fun _ _ k => e_goto (tgt := 213) dX2_act_95 rfl k) ?_
    refine es_sub [] rfl ?_
    exact t_X2_act_213 N S65 r hf
  rw [if_neg c62] at hf
  by_cases c67 : (S.1 a1 0 : Int32).toInt ∈ [(5 : Int)]
  · rw [if_pos c67] at hf
    refine es_l (pc' := 98) (ls' := [(0, .ref (w.2.1 + 409)), (1, .ref (w.2.1 + a1))]) (st' := []) (fun _ _ k => e_lookC (off := 94) dX2_act_4 c67 (by decide) rfl k) ?_
    refine es_l (pc' := 100) (ls' := [(0, .ref (w.2.1 + 409)), (1, .ref (w.2.1 + a1))]) (st' := [.ref (w.2.1 + a1), .ref (w.2.1 + 409)]) (fun _ _ k => e_aload_n dX2_act_98 0 rfl (e_aload_n dX2_act_99 1 rfl k)) ?_
    refine es_callVV (as := [.ref (w.2.1 + a1)]) (rest := []) hf xc_2 dX2_act_100 cs_X2_act_X2_set ml_X2_112 im_X2_set se_X2_set rfl rfl (Nat.le_of_ble_eq_true rfl) (Nat.le_of_ble_eq_true rfl) (by decide) rfl (cel_409 _ _ _) (fun _ e => t_X2_set N a1 S _ e) (by decide) (fun S68 hf => ?_)
    refine es_l (pc' := 213) (ls' := [(0, .ref (w.2.1 + 409)), (1, .ref (w.2.1 + a1))]) (st' := []) (fun _ _ k => e_goto (tgt := 213) dX2_act_103 rfl k) ?_
    refine es_sub [] rfl ?_
    exact t_X2_act_213 N S68 r hf
  rw [if_neg c67] at hf
  by_cases c70 : (S.1 a1 0 : Int32).toInt ∈ [(6 : Int)]
  · rw [if_pos c70] at hf
    refine es_l (pc' := 106) (ls' := [(0, .ref (w.2.1 + 409)), (1, .ref (w.2.1 + a1))]) (st' := []) (fun _ _ k => e_lookC (off := 102) dX2_act_4 c70 (by decide) rfl k) ?_
    refine es_l (pc' := 107) (ls' := [(0, .ref (w.2.1 + 409)), (1, .ref (w.2.1 + a1))]) (st' := [.ref (w.2.1 + 409)]) (fun _ _ k => e_aload_n dX2_act_106 0 rfl k) ?_
    refine es_get (v := .ref (w.2.1 + 410)) xc_2 dX2_act_107 fl_X2_9 (by decide) (by decide) (cel_409 _ _ _) rfl ?_
    refine es_l (pc' := 111) (ls' := [(0, .ref (w.2.1 + 409)), (1, .ref (w.2.1 + a1))]) (st' := [.ref (w.2.1 + a1), .ref (w.2.1 + 410)]) (fun _ _ k => e_aload_n dX2_act_110 1 rfl k) ?_
    refine es_get (v := .int (S.1 a1 4)) xc_8 dX2_act_111 fl_X2_115 (by decide) (xStep_lt g61) (cel_st g61 _ _ _) rfl ?_
    refine es_l (pc' := 116) (ls' := [(0, .ref (w.2.1 + 409)), (1, .ref (w.2.1 + a1))]) (st' := [.ref (w.2.1 + a1), .ref (w.2.1 + 409), .int (S.1 a1 4), .ref (w.2.1 + 410)]) (fun _ _ k => e_aload_n dX2_act_114 0 rfl (e_aload_n dX2_act_115 1 rfl k)) ?_
    refine es_get (v := .int (S.1 a1 6)) xc_8 dX2_act_116 fl_X2_87 (by decide) (xStep_lt g61) (cel_st g61 _ _ _) rfl ?_
    refine es_callVI (as := [.int (S.1 a1 6)]) (rest := [.int (S.1 a1 4), .ref (w.2.1 + 410)]) hf xc_2 dX2_act_119 cs_X2_act_X2_value ml_X2_90 im_X2_value se_X2_value rfl rfl (Nat.le_of_ble_eq_true rfl) (Nat.le_of_ble_eq_true rfl) (by decide) rfl (cel_409 _ _ _) (fun _ e => t_X2_value N (S.1 a1 6) S _ e) (by decide) (fun v72 S71 hf => ?_)
    obtain ⟨g73, hf⟩ := xg hf
    refine es_iast dX2_act_122 (by decide) (cel_410 _) g73 ?_
    refine es_l (pc' := 213) (ls' := [(0, .ref (w.2.1 + 409)), (1, .ref (w.2.1 + a1))]) (st' := []) (fun _ _ k => e_goto (tgt := 213) dX2_act_123 rfl k) ?_
    refine es_sub [] rfl ?_
    exact t_X2_act_213 N (sI S71 410 ((S.1 a1 4).toNatClampNeg) v72) r hf
  rw [if_neg c70] at hf
  by_cases c74 : (S.1 a1 0 : Int32).toInt ∈ [(7 : Int)]
  · rw [if_pos c74] at hf
    refine es_l (pc' := 126) (ls' := [(0, .ref (w.2.1 + 409)), (1, .ref (w.2.1 + a1))]) (st' := []) (fun _ _ k => e_lookC (off := 122) dX2_act_4 c74 (by decide) rfl k) ?_
    refine es_l (pc' := 127) (ls' := [(0, .ref (w.2.1 + 409)), (1, .ref (w.2.1 + a1))]) (st' := [.ref (w.2.1 + 409)]) (fun _ _ k => e_aload_n dX2_act_126 0 rfl k) ?_
    refine es_get (v := .ref (w.2.1 + 411)) xc_2 dX2_act_127 fl_X2_15 (by decide) (by decide) (cel_409 _ _ _) rfl ?_
    refine es_l (pc' := 131) (ls' := [(0, .ref (w.2.1 + 409)), (1, .ref (w.2.1 + a1))]) (st' := [.ref (w.2.1 + 409), .ref (w.2.1 + 411)]) (fun _ _ k => e_aload_n dX2_act_130 0 rfl k) ?_
    refine es_get (v := .int (S.1 409 8)) xc_2 dX2_act_131 fl_X2_118 (by decide) (by decide) (cel_409 _ _ _) rfl ?_
    refine es_l (pc' := 139) (ls' := [(0, .ref (w.2.1 + 409)), (1, .ref (w.2.1 + a1))]) (st' := [.ref (w.2.1 + a1), .ref (w.2.1 + 409), .int ((S.1 409 8) - (S.1 409 8) / 64 * 64), .ref (w.2.1 + 411)]) (fun _ _ k => e_bipush (v := 64) dX2_act_134 (by decide) (e_irem dX2_act_136 (by decide) (e_aload_n dX2_act_137 0 rfl (e_aload_n dX2_act_138 1 rfl k)))) ?_
    refine es_get (v := .int (S.1 a1 6)) xc_8 dX2_act_139 fl_X2_87 (by decide) (xStep_lt g61) (cel_st g61 _ _ _) rfl ?_
    refine es_callVI (as := [.int (S.1 a1 6)]) (rest := [.int ((S.1 409 8) - (S.1 409 8) / 64 * 64), .ref (w.2.1 + 411)]) hf xc_2 dX2_act_142 cs_X2_act_X2_value ml_X2_90 im_X2_value se_X2_value rfl rfl (Nat.le_of_ble_eq_true rfl) (Nat.le_of_ble_eq_true rfl) (by decide) rfl (cel_409 _ _ _) (fun _ e => t_X2_value N (S.1 a1 6) S _ e) (by decide) (fun v76 S75 hf => ?_)
    obtain ⟨g77, hf⟩ := xg hf
    refine es_iast dX2_act_145 (by decide) (cel_411 _) g77 ?_
    refine es_l (pc' := 148) (ls' := [(0, .ref (w.2.1 + 409)), (1, .ref (w.2.1 + a1))]) (st' := [.ref (w.2.1 + 409), .ref (w.2.1 + 409)]) (fun _ _ k => e_aload_n dX2_act_146 0 rfl (e_dup dX2_act_147 rfl k)) ?_
    refine es_get (v := .int (S75.1 409 8)) xc_2 dX2_act_148 fl_X2_118 (by decide) (by decide) (cel_409 _ _ _) rfl ?_
    refine es_l (pc' := 153) (ls' := [(0, .ref (w.2.1 + 409)), (1, .ref (w.2.1 + a1))]) (st' := [.int ((S75.1 409 8) + 1), .ref (w.2.1 + 409)]) (fun _ _ k => e_iconst (v := 1) dX2_act_151 (by decide) (e_iadd dX2_act_152 k)) ?_
    refine es_put xc_2 dX2_act_153 fl_X2_118 (by decide) (by decide) (by decide) (cel_409 _ _ _) rfl rfl rfl rfl ?_
    refine es_l (pc' := 213) (ls' := [(0, .ref (w.2.1 + 409)), (1, .ref (w.2.1 + a1))]) (st' := []) (fun _ _ k => e_goto (tgt := 213) dX2_act_156 rfl k) ?_
    refine es_sub [] rfl ?_
    exact t_X2_act_213 N (sI (sI S75 411 (((S.1 409 8) - (S.1 409 8) / 64 * 64).toNatClampNeg) v76) 409 8 ((S75.1 409 8) + 1)) r hf
  rw [if_neg c74] at hf
  by_cases c78 : (S.1 a1 0 : Int32).toInt ∈ [(8 : Int)]
  · rw [if_pos c78] at hf
    refine es_l (pc' := 159) (ls' := [(0, .ref (w.2.1 + 409)), (1, .ref (w.2.1 + a1))]) (st' := []) (fun _ _ k => e_lookC (off := 155) dX2_act_4 c78 (by decide) rfl k) ?_
    refine es_l (pc' := 160) (ls' := [(0, .ref (w.2.1 + 409)), (1, .ref (w.2.1 + a1))]) (st' := [.ref (w.2.1 + 409)]) (fun _ _ k => e_aload_n dX2_act_159 0 rfl k) ?_
    refine es_get (v := .ref (w.2.1 + 478)) xc_2 dX2_act_160 fl_X2_43 (by decide) (by decide) (cel_409 _ _ _) rfl ?_
    refine es_l (pc' := 164) (ls' := [(0, .ref (w.2.1 + 409)), (1, .ref (w.2.1 + a1))]) (st' := [.ref (w.2.1 + a1), .ref (w.2.1 + 478)]) (fun _ _ k => e_aload_n dX2_act_163 1 rfl k) ?_
    refine es_get (v := .int (S.1 a1 3)) xc_8 dX2_act_164 fl_X2_77 (by decide) (xStep_lt g61) (cel_st g61 _ _ _) rfl ?_
    refine es_l (pc' := 169) (ls' := [(0, .ref (w.2.1 + 409)), (1, .ref (w.2.1 + a1))]) (st' := [.ref (w.2.1 + a1), .ref (w.2.1 + 409), .int (S.1 a1 3), .ref (w.2.1 + 478)]) (fun _ _ k => e_aload_n dX2_act_167 0 rfl (e_aload_n dX2_act_168 1 rfl k)) ?_
    refine es_get (v := .int (S.1 a1 1)) xc_8 dX2_act_169 fl_X2_96 (by decide) (xStep_lt g61) (cel_st g61 _ _ _) rfl ?_
    refine es_l (pc' := 173) (ls' := [(0, .ref (w.2.1 + 409)), (1, .ref (w.2.1 + a1))]) (st' := [.ref (w.2.1 + a1), .int (S.1 a1 1), .ref (w.2.1 + 409), .int (S.1 a1 3), .ref (w.2.1 + 478)]) (fun _ _ k => e_aload_n dX2_act_172 1 rfl k) ?_
    refine es_get (v := .int (S.1 a1 5)) xc_8 dX2_act_173 fl_X2_99 (by decide) (xStep_lt g61) (cel_st g61 _ _ _) rfl ?_
    refine es_callVJ (as := [.int (S.1 a1 1), .int (S.1 a1 5)]) (rest := [.int (S.1 a1 3), .ref (w.2.1 + 478)]) hf xc_2 dX2_act_176 cs_X2_act_X2_found ml_X2_102 im_X2_found se_X2_found rfl rfl (Nat.le_of_ble_eq_true rfl) (Nat.le_of_ble_eq_true rfl) (by decide) rfl (cel_409 _ _ _) (fun _ e => t_X2_found N (S.1 a1 1) (S.1 a1 5) S _ e) (by decide) (fun v80 S79 hf => ?_)
    refine es_l (pc' := 180) (ls' := [(0, .ref (w.2.1 + 409)), (1, .ref (w.2.1 + a1))]) (st' := [.ref (w.2.1 + a1), .long v80, .int (S.1 a1 3), .ref (w.2.1 + 478)]) (fun _ _ k => e_aload_n dX2_act_179 1 rfl k) ?_
    refine es_get (v := .int (S79.1 a1 2)) xc_8 dX2_act_180 fl_X2_121 (by decide) (xStep_lt g61) (cel_st g61 _ _ _) rfl ?_
    refine es_callVV (as := [.int (S.1 a1 3), .long v80, .int (S79.1 a1 2)]) (rest := []) hf xc_0 dX2_act_183 cs_X2_act_X0_begin ml_X2_124 im_X0_begin se_X0_begin rfl rfl (Nat.le_of_ble_eq_true rfl) (Nat.le_of_ble_eq_true rfl) (by decide) rfl (cel_478 _ _ _) (fun _ e => t_X0_begin N (S.1 a1 3) v80 (S79.1 a1 2) S79 _ e) (by decide) (fun S81 hf => ?_)
    refine es_l (pc' := 213) (ls' := [(0, .ref (w.2.1 + 409)), (1, .ref (w.2.1 + a1))]) (st' := []) (fun _ _ k => e_goto (tgt := 213) dX2_act_186 rfl k) ?_
    refine es_sub [] rfl ?_
    exact t_X2_act_213 N S81 r hf
  rw [if_neg c78] at hf
  by_cases c83 : (S.1 a1 0 : Int32).toInt ∈ [(13 : Int)]
  · rw [if_pos c83] at hf
    refine es_l (pc' := 205) (ls' := [(0, .ref (w.2.1 + 409)), (1, .ref (w.2.1 + a1))]) (st' := []) (fun _ _ k => e_lookC (off := 201) dX2_act_4 c83 (by decide) rfl k) ?_
    refine es_l (pc' := 207) (ls' := [(0, .ref (w.2.1 + 409)), (1, .ref (w.2.1 + a1))]) (st' := [.ref (w.2.1 + a1), .ref (w.2.1 + 409)]) (fun _ _ k => e_aload_n dX2_act_205 0 rfl (e_aload_n dX2_act_206 1 rfl k)) ?_
    refine es_callVV (as := [.ref (w.2.1 + a1)]) (rest := []) hf xc_2 dX2_act_207 cs_X2_act_X2_remove ml_X2_132 im_X2_remove se_X2_remove rfl rfl (Nat.le_of_ble_eq_true rfl) (Nat.le_of_ble_eq_true rfl) (by decide) rfl (cel_409 _ _ _) (fun _ e => t_X2_remove N a1 S _ e) (by decide) (fun S84 hf => ?_)
    refine es_l (pc' := 213) (ls' := [(0, .ref (w.2.1 + 409)), (1, .ref (w.2.1 + a1))]) (st' := []) (fun _ _ k => e_goto (tgt := 213) dX2_act_210 rfl k) ?_
    refine es_sub [] rfl ?_
    exact t_X2_act_213 N S84 r hf
  rw [if_neg c83] at hf
  by_cases c86 : (S.1 a1 0 : Int32).toInt ∈ [(50 : Int)]
  · rw [if_pos c86] at hf
    refine es_l (pc' := 189) (ls' := [(0, .ref (w.2.1 + 409)), (1, .ref (w.2.1 + a1))]) (st' := []) (fun _ _ k => e_lookC (off := 185) dX2_act_4 c86 (by decide) rfl k) ?_
    refine es_l (pc' := 193) (ls' := [(0, .ref (w.2.1 + 409)), (1, .ref (w.2.1 + a1))]) (st' := [.ref (w.2.1 + a1), .ref (w.2.1 + 409), .ref (w.2.1 + a1), .ref (w.2.1 + 409)]) (fun _ _ k => e_aload_n dX2_act_189 0 rfl (e_aload_n dX2_act_190 1 rfl (e_aload_n dX2_act_191 0 rfl (e_aload_n dX2_act_192 1 rfl k)))) ?_
    refine es_get (v := .int (S.1 a1 6)) xc_8 dX2_act_193 fl_X2_87 (by decide) (xStep_lt g61) (cel_st g61 _ _ _) rfl ?_
    refine es_callVI (as := [.int (S.1 a1 6)]) (rest := [.ref (w.2.1 + a1), .ref (w.2.1 + 409)]) hf xc_2 dX2_act_196 cs_X2_act_X2_value ml_X2_90 im_X2_value se_X2_value rfl rfl (Nat.le_of_ble_eq_true rfl) (Nat.le_of_ble_eq_true rfl) (by decide) rfl (cel_409 _ _ _) (fun _ e => t_X2_value N (S.1 a1 6) S _ e) (by decide) (fun v88 S87 hf => ?_)
    refine es_callVV (as := [.ref (w.2.1 + a1), .int v88]) (rest := []) hf xc_2 dX2_act_199 cs_X2_act_X2_change ml_X2_128 im_X2_change se_X2_change rfl rfl (Nat.le_of_ble_eq_true rfl) (Nat.le_of_ble_eq_true rfl) (by decide) rfl (cel_409 _ _ _) (fun _ e => t_X2_change N a1 v88 S87 _ e) (by decide) (fun S89 hf => ?_)
    refine es_l (pc' := 213) (ls' := [(0, .ref (w.2.1 + 409)), (1, .ref (w.2.1 + a1))]) (st' := []) (fun _ _ k => e_goto (tgt := 213) dX2_act_202 rfl k) ?_
    refine es_sub [] rfl ?_
    exact t_X2_act_213 N S89 r hf
  rw [if_neg c86] at hf
  refine es_l (pc' := 213) (ls' := [(0, .ref (w.2.1 + 409)), (1, .ref (w.2.1 + a1))]) (st' := []) (fun _ _ k => e_lookD (L := [3, 5, 6, 7, 8, 13, 50]) dX2_act_4 (by  simp only [List.mem_cons, List.not_mem_nil, or_false] at *; omega) (by decide) rfl k) ?_
  refine es_sub [] rfl ?_
  exact t_X2_act_213 N S r hf
