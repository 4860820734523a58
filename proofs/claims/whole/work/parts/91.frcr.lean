/-! frames: cr -/
theorem frcr_f_J9_max_7cf53_10 {S0 : xS} (N : Nat) (s0 : Int32) (S : xS) (hS : Rcr S0 S) : KFo Rcr S0 (f_J9_max_7cf53_10 N s0 S) := by
  unfold f_J9_max_7cf53_10
  exact (K_ret hS)
theorem frcr_f_J9_max_7cf53 {S0 : xS} (N : Nat) (x0 : Int32) (x1 : Int32) (S : xS) (hS : Rcr S0 S) : KFo Rcr S0 (f_J9_max_7cf53 N x0 x1 S) := by
  unfold f_J9_max_7cf53
  exact (K_ite (frcr_f_J9_max_7cf53_10 _ _ _ hS) (frcr_f_J9_max_7cf53_10 _ _ _ hS))
theorem fr_f_X0_begin_115 {S0 : xS} (N : Nat) : ∀ (n : Nat) (x1 : Int32) (a5 : Nat) (x6 : Int32) (x7 : Int32) (S : xS), Rcr S0 S → KFo Rcr S0 (f_X0_begin_115 N n x1 a5 x6 x7 S) := by
  intro n
  induction n with
  | zero => intro x1 a5 x6 x7 S _; exact K_non
  | succ n ih =>
    intro x1 a5 x6 x7 S hS
    rw [f_X0_begin_115.eq_2]
    exact (K_ite (K_xin (fun _ => (K_ret (Rcr_I (Rcr_I hS (by omega)) (by omega)))) K_non) (K_xin (fun _ => (K_xReg480 (fun _ => (K_xin (fun _ => (K_xin (fun _ => (ih _ _ _ _ _ (Rcr_I hS (by omega)))) K_non)) K_non)) K_non)) K_non))
theorem fr_f_X0_begin_106 {S0 : xS} (N : Nat) (k14 : Int32 → Int64 → Int32 → Nat → Int32 → Int32 → xS → Option xr) (hk14 : ∀ (z0 : Int32) (z1 : Int64) (z2 : Int32) (z3 : Nat) (z4 : Int32) (z5 : Int32) (z6 : xS), Rcr S0 z6 → KFo Rcr S0 (k14 z0 z1 z2 z3 z4 z5 z6)) (x1 : Int32) (y2 : Int64) (x4 : Int32) (a5 : Nat) (x6 : Int32) (x7 : Int32) (S : xS) (hS : Rcr S0 S) : KFo Rcr S0 (f_X0_begin_106 N k14 x1 y2 x4 a5 x6 x7 S) := by
  unfold f_X0_begin_106
  exact (hk14 _ _ _ _ _ _ _ hS)
theorem fr_f_X0_begin_96 {S0 : xS} (N : Nat) (k14 : Int32 → Int64 → Int32 → Nat → Int32 → Int32 → xS → Option xr) (hk14 : ∀ (z0 : Int32) (z1 : Int64) (z2 : Int32) (z3 : Nat) (z4 : Int32) (z5 : Int32) (z6 : xS), Rcr S0 z6 → KFo Rcr S0 (k14 z0 z1 z2 z3 z4 z5 z6)) (x1 : Int32) (y2 : Int64) (x4 : Int32) (a5 : Nat) (x6 : Int32) (x7 : Int32) (x8 : Int32) (S : xS) (hS : Rcr S0 S) : KFo Rcr S0 (f_X0_begin_96 N k14 x1 y2 x4 a5 x6 x7 x8 S) := by
  unfold f_X0_begin_96
  exact (K_xReg480 (fun _ => (K_xin (fun _ => (fr_f_X0_begin_106 _ _ hk14 _ _ _ _ _ _ _ (Rcr_I hS (by omega)))) K_non)) K_non)
theorem fr_f_X0_begin_39 {S0 : xS} (N : Nat) (k14 : Int32 → Int64 → Int32 → Nat → Int32 → Int32 → xS → Option xr) (hk14 : ∀ (z0 : Int32) (z1 : Int64) (z2 : Int32) (z3 : Nat) (z4 : Int32) (z5 : Int32) (z6 : xS), Rcr S0 z6 → KFo Rcr S0 (k14 z0 z1 z2 z3 z4 z5 z6)) : ∀ (n : Nat) (x1 : Int32) (y2 : Int64) (x4 : Int32) (a5 : Nat) (x6 : Int32) (x7 : Int32) (x8 : Int32) (S : xS), Rcr S0 S → KFo Rcr S0 (f_X0_begin_39 N k14 n x1 y2 x4 a5 x6 x7 x8 S) := by
  intro n
  induction n with
  | zero => intro x1 y2 x4 a5 x6 x7 x8 S _; exact K_non
  | succ n ih =>
    intro x1 y2 x4 a5 x6 x7 x8 S hS
    rw [f_X0_begin_39.eq_2]
    exact (K_ite (fr_f_X0_begin_96 _ _ hk14 _ _ _ _ _ _ _ _ hS) (K_xReg480 (fun _ => (K_xin (fun _ => (K_xin (fun _ => (K_xin (fun _ => (K_xin (fun _ => (K_ite (fr_f_X0_begin_96 _ _ hk14 _ _ _ _ _ _ _ _ hS) (K_xin (fun _ => (ih _ _ _ _ _ _ _ _ (Rcr_I hS (by omega)))) K_non))) K_non)) K_non)) K_non)) K_non)) K_non))
theorem fr_f_X0_begin_14 {S0 : xS} (N : Nat) : ∀ (n : Nat) (x1 : Int32) (y2 : Int64) (x4 : Int32) (a5 : Nat) (x6 : Int32) (x7 : Int32) (S : xS), Rcr S0 S → KFo Rcr S0 (f_X0_begin_14 N n x1 y2 x4 a5 x6 x7 S) := by
  intro n
  induction n with
  | zero => intro x1 y2 x4 a5 x6 x7 S _; exact K_non
  | succ n ih =>
    intro x1 y2 x4 a5 x6 x7 S hS
    rw [f_X0_begin_14.eq_2]
    exact (K_ite (fr_f_X0_begin_115 _ _ _ _ _ _ _ hS) (K_ite (fr_f_X0_begin_106 _ _ (fun z0 z1 z2 z3 z4 z5 z6 hh => ih z0 z1 z2 z3 z4 z5 z6 hh) _ _ _ _ _ _ _ hS) (fr_f_X0_begin_39 _ _ (fun z0 z1 z2 z3 z4 z5 z6 hh => ih z0 z1 z2 z3 z4 z5 z6 hh) _ _ _ _ _ _ _ _ _ hS)))
theorem fr_f_X0_begin {S0 : xS} (N : Nat) (x1 : Int32) (y2 : Int64) (x4 : Int32) (S : xS) (hS : Rcr S0 S) : KFo Rcr S0 (f_X0_begin N x1 y2 x4 S) := by
  unfold f_X0_begin
  exact (K_xin (fun _ => (fr_f_X0_begin_14 _ _ _ _ _ _ _ _ _ hS)) K_non)
theorem fr_f_X0_at_41 {S0 : xS} (N : Nat) (s0 : Int32) (S : xS) (hS : Rcr S0 S) : KFo Rcr S0 (f_X0_at_41 N s0 S) := by
  unfold f_X0_at_41
  exact (K_ret hS)
theorem fr_f_X0_at {S0 : xS} (N : Nat) (x1 : Int32) (S : xS) (hS : Rcr S0 S) : KFo Rcr S0 (f_X0_at N x1 S) := by
  unfold f_X0_at
  exact (K_xin (fun _ => (K_xin (fun _ => (K_xin (fun _ => (K_ite (fr_f_X0_at_41 _ _ _ hS) (fr_f_X0_at_41 _ _ _ hS))) K_non)) K_non)) K_non)
theorem fr_f_X0_moves_9 {S0 : xS} (N : Nat) : ∀ (n : Nat) (x1 : Int32) (x2 : Int32) (S : xS), Rcr S0 S → KFo Rcr S0 (f_X0_moves_9 N n x1 x2 S) := by
  intro n
  induction n with
  | zero => intro x1 x2 S _; exact K_non
  | succ n ih =>
    intro x1 x2 S hS
    rw [f_X0_moves_9.eq_2]
    exact (K_xin (fun _ => (K_ite (K_ret hS) (K_xcI (fr_f_X0_at _ _ _ (Rcr_I hS (by omega))) (fun v16 S15 hS15 => (K_ite (ih _ _ _ hS15) (K_ret hS15)))))) K_non)
theorem fr_f_X0_moves {S0 : xS} (N : Nat) (x1 : Int32) (S : xS) (hS : Rcr S0 S) : KFo Rcr S0 (f_X0_moves N x1 S) := by
  unfold f_X0_moves
  exact (K_xin (fun _ => (fr_f_X0_moves_9 _ _ _ _ _ hS)) K_non)
theorem fr_f_X2_spend {S0 : xS} (N : Nat) (S : xS) (hS : Rcr S0 S) : KFo Rcr S0 (f_X2_spend N S) := by
  unfold f_X2_spend
  exact (K_ite (K_ret hS) (K_ret (Rcr_I hS (by omega))))
theorem fr_f_X2_joined_147 {S0 : xS} (N : Nat) (s0 : Int32) (S : xS) (hS : Rcr S0 S) : KFo Rcr S0 (f_X2_joined_147 N s0 S) := by
  unfold f_X2_joined_147
  exact (K_ret hS)
theorem fr_f_X2_joined_146 {S0 : xS} (N : Nat) (S : xS) (hS : Rcr S0 S) : KFo Rcr S0 (f_X2_joined_146 N S) := by
  unfold f_X2_joined_146
  exact (fr_f_X2_joined_147 _ _ _ hS)
theorem fr_f_X2_joined_133 {S0 : xS} (N : Nat) (s0 : Int32) (S : xS) (hS : Rcr S0 S) : KFo Rcr S0 (f_X2_joined_133 N s0 S) := by
  unfold f_X2_joined_133
  exact (K_ret hS)
theorem fr_f_X2_joined_128 {S0 : xS} (N : Nat) (S : xS) (hS : Rcr S0 S) : KFo Rcr S0 (f_X2_joined_128 N S) := by
  unfold f_X2_joined_128
  exact (fr_f_X2_joined_133 _ _ _ hS)
theorem fr_f_X2_joined_249 {S0 : xS} (N : Nat) (s0 : Int32) (S : xS) (hS : Rcr S0 S) : KFo Rcr S0 (f_X2_joined_249 N s0 S) := by
  unfold f_X2_joined_249
  exact (K_ret hS)
theorem fr_f_X2_joined_158 {S0 : xS} (N : Nat) (s0 : Int32) (S : xS) (hS : Rcr S0 S) : KFo Rcr S0 (f_X2_joined_158 N s0 S) := by
  unfold f_X2_joined_158
  exact (K_ret hS)
theorem fr_f_X2_joined_180 {S0 : xS} (N : Nat) (s0 : Int32) (S : xS) (hS : Rcr S0 S) : KFo Rcr S0 (f_X2_joined_180 N s0 S) := by
  unfold f_X2_joined_180
  exact (K_ret hS)
theorem fr_f_X2_joined_202 {S0 : xS} (N : Nat) (s0 : Int32) (S : xS) (hS : Rcr S0 S) : KFo Rcr S0 (f_X2_joined_202 N s0 S) := by
  unfold f_X2_joined_202
  exact (K_ret hS)
theorem fr_f_X2_joined_237 {S0 : xS} (N : Nat) (s0 : Int32) (S : xS) (hS : Rcr S0 S) : KFo Rcr S0 (f_X2_joined_237 N s0 S) := by
  unfold f_X2_joined_237
  exact (K_ret hS)
theorem fr_f_X2_joined_169 {S0 : xS} (N : Nat) (s0 : Int32) (S : xS) (hS : Rcr S0 S) : KFo Rcr S0 (f_X2_joined_169 N s0 S) := by
  unfold f_X2_joined_169
  exact (K_ret hS)
theorem fr_f_X2_joined_191 {S0 : xS} (N : Nat) (s0 : Int32) (S : xS) (hS : Rcr S0 S) : KFo Rcr S0 (f_X2_joined_191 N s0 S) := by
  unfold f_X2_joined_191
  exact (K_ret hS)
theorem fr_f_X2_joined_213 {S0 : xS} (N : Nat) (s0 : Int32) (S : xS) (hS : Rcr S0 S) : KFo Rcr S0 (f_X2_joined_213 N s0 S) := by
  unfold f_X2_joined_213
  exact (K_ret hS)
theorem fr_f_X2_joined {S0 : xS} (N : Nat) (x0 : Int32) (x1 : Int32) (x2 : Int32) (S : xS) (hS : Rcr S0 S) : KFo Rcr S0 (f_X2_joined N x0 x1 x2 S) := by
  unfold f_X2_joined
  exact (K_ite (K_ite (fr_f_X2_joined_146 _ _ hS) (K_ite (fr_f_X2_joined_146 _ _ hS) (fr_f_X2_joined_147 _ _ _ hS))) (K_ite (K_ite (K_ite (fr_f_X2_joined_133 _ _ _ hS) (fr_f_X2_joined_128 _ _ hS)) (fr_f_X2_joined_128 _ _ hS)) (K_ite (K_ite (fr_f_X2_joined_158 _ _ _ hS) (fr_f_X2_joined_158 _ _ _ hS)) (K_ite (K_ite (fr_f_X2_joined_180 _ _ _ hS) (fr_f_X2_joined_180 _ _ _ hS)) (K_ite (K_ite (fr_f_X2_joined_202 _ _ _ hS) (fr_f_X2_joined_202 _ _ _ hS)) (K_ite (K_ret hS) (K_ite (K_ret hS) (K_ite (K_ret hS) (K_ite (K_ite (fr_f_X2_joined_237 _ _ _ hS) (K_ite (fr_f_X2_joined_237 _ _ _ hS) K_non)) (K_ite (K_ite (fr_f_X2_joined_169 _ _ _ hS) (fr_f_X2_joined_169 _ _ _ hS)) (K_ite (K_ite (fr_f_X2_joined_191 _ _ _ hS) (fr_f_X2_joined_191 _ _ _ hS)) (K_ite (K_ite (fr_f_X2_joined_213 _ _ _ hS) (fr_f_X2_joined_213 _ _ _ hS)) (K_ite (fr_f_X2_joined_249 _ _ _ hS) (K_ite (fr_f_X2_joined_249 _ _ _ hS) K_non))))))))))))))
theorem fr_f_X2_within_417 {S0 : xS} (N : Nat) (S : xS) (hS : Rcr S0 S) : KFo Rcr S0 (f_X2_within_417 N S) := by
  unfold f_X2_within_417
  exact (K_xin (fun _ => (K_ret hS)) K_non)
theorem fr_f_X2_within_411 {S0 : xS} (N : Nat) (k5 : Int32 → Int32 → Int32 → xS → Option xr) (hk5 : ∀ (z0 : Int32) (z1 : Int32) (z2 : Int32) (z3 : xS), Rcr S0 z3 → KFo Rcr S0 (k5 z0 z1 z2 z3)) (x2 : Int32) (x3 : Int32) (x4 : Int32) (S : xS) (hS : Rcr S0 S) : KFo Rcr S0 (f_X2_within_411 N k5 x2 x3 x4 S) := by
  unfold f_X2_within_411
  exact (hk5 _ _ _ _ hS)
theorem fr_f_X2_within_360 {S0 : xS} (N : Nat) (k5 : Int32 → Int32 → Int32 → xS → Option xr) (hk5 : ∀ (z0 : Int32) (z1 : Int32) (z2 : Int32) (z3 : xS), Rcr S0 z3 → KFo Rcr S0 (k5 z0 z1 z2 z3)) (x2 : Int32) (x3 : Int32) (x4 : Int32) (s0 : Int32) (s1 : Int32) (S : xS) (hS : Rcr S0 S) : KFo Rcr S0 (f_X2_within_360 N k5 x2 x3 x4 s0 s1 S) := by
  unfold f_X2_within_360
  exact (K_xin (fun _ => (fr_f_X2_within_411 _ _ hk5 _ _ _ _ (Rcr_I hS (by omega)))) K_non)
theorem fr_f_X2_within_306 {S0 : xS} (N : Nat) (k5 : Int32 → Int32 → Int32 → xS → Option xr) (hk5 : ∀ (z0 : Int32) (z1 : Int32) (z2 : Int32) (z3 : xS), Rcr S0 z3 → KFo Rcr S0 (k5 z0 z1 z2 z3)) (x2 : Int32) (x3 : Int32) (x4 : Int32) (s0 : Int32) (s1 : Int32) (S : xS) (hS : Rcr S0 S) : KFo Rcr S0 (f_X2_within_306 N k5 x2 x3 x4 s0 s1 S) := by
  unfold f_X2_within_306
  exact (K_xin (fun _ => (fr_f_X2_within_411 _ _ hk5 _ _ _ _ (Rcr_I hS (by omega)))) K_non)
theorem fr_f_X2_within_5 {S0 : xS} (N : Nat) : ∀ (n : Nat) (x2 : Int32) (x3 : Int32) (x4 : Int32) (S : xS), Rcr S0 S → KFo Rcr S0 (f_X2_within_5 N n x2 x3 x4 S) := by
  intro n
  induction n with
  | zero => intro x2 x3 x4 S _; exact K_non
  | succ n ih =>
    intro x2 x3 x4 S hS
    rw [f_X2_within_5.eq_2]
    exact (K_ite (fr_f_X2_within_417 _ _ hS) (K_xin (fun _ => (K_ite (fr_f_X2_within_417 _ _ hS) (K_ite (K_xin (fun _ => (K_ite (fr_f_X2_within_360 _ _ (fun z0 z1 z2 z3 hh => ih z0 z1 z2 z3 hh) _ _ _ _ _ _ hS) (fr_f_X2_within_360 _ _ (fun z0 z1 z2 z3 hh => ih z0 z1 z2 z3 hh) _ _ _ _ _ _ hS))) K_non) (K_ite (K_xin (fun _ => (K_xcI (frcr_f_J9_max_7cf53 _ _ _ _ (Rcr_I hS (by omega))) (fun v81 S80 hS80 => (fr_f_X2_within_411 _ _ (fun z0 z1 z2 z3 hh => ih z0 z1 z2 z3 hh) _ _ _ _ hS80)))) K_non) (K_ite (K_xin (fun _ => (fr_f_X2_within_411 _ _ (fun z0 z1 z2 z3 hh => ih z0 z1 z2 z3 hh) _ _ _ _ (Rcr_I hS (by omega)))) K_non) (K_ite (K_xin (fun _ => (fr_f_X2_within_411 _ _ (fun z0 z1 z2 z3 hh => ih z0 z1 z2 z3 hh) _ _ _ _ (Rcr_I hS (by omega)))) K_non) (K_ite (K_xin (fun _ => (K_xin (fun _ => (fr_f_X2_within_411 _ _ (fun z0 z1 z2 z3 hh => ih z0 z1 z2 z3 hh) _ _ _ _ (Rcr_I hS (by omega)))) K_non)) K_non) (K_ite (K_xin (fun _ => (K_xin (fun _ => (K_xin (fun _ => (fr_f_X2_within_411 _ _ (fun z0 z1 z2 z3 hh => ih z0 z1 z2 z3 hh) _ _ _ _ (Rcr_I hS (by omega)))) K_non)) K_non)) K_non) (K_ite (K_xcI (fr_f_X0_at _ _ _ hS) (fun v95 S94 hS94 => (K_ite (fr_f_X2_within_306 _ _ (fun z0 z1 z2 z3 hh => ih z0 z1 z2 z3 hh) _ _ _ _ _ _ hS94) (K_xin (fun _ => (K_xin (fun _ => (fr_f_X2_within_306 _ _ (fun z0 z1 z2 z3 hh => ih z0 z1 z2 z3 hh) _ _ _ _ _ _ hS94)) K_non)) K_non)))) (K_xin (fun _ => (K_xin (fun _ => (K_xcI (fr_f_X2_joined _ _ _ _ _ hS) (fun v102 S101 hS101 => (fr_f_X2_within_411 _ _ (fun z0 z1 z2 z3 hh => ih z0 z1 z2 z3 hh) _ _ _ _ (Rcr_I hS101 (by omega)))))) K_non)) K_non)))))))))) K_non))
theorem fr_f_X2_within {S0 : xS} (N : Nat) (x1 : Int32) (x2 : Int32) (S : xS) (hS : Rcr S0 S) : KFo Rcr S0 (f_X2_within N x1 x2 S) := by
  unfold f_X2_within
  exact (fr_f_X2_within_5 _ _ _ _ _ _ hS)
theorem fr_f_X2_found_60 {S0 : xS} (N : Nat) (k23 : Int32 → Int64 → Int64 → Int32 → xS → Option xr) (hk23 : ∀ (z0 : Int32) (z1 : Int64) (z2 : Int64) (z3 : Int32) (z4 : xS), Rcr S0 z4 → KFo Rcr S0 (k23 z0 z1 z2 z3 z4)) (x2 : Int32) (y3 : Int64) (y5 : Int64) (x7 : Int32) (S : xS) (hS : Rcr S0 S) : KFo Rcr S0 (f_X2_found_60 N k23 x2 y3 y5 x7 S) := by
  unfold f_X2_found_60
  exact (hk23 _ _ _ _ _ hS)
theorem fr_f_X2_found_23 {S0 : xS} (N : Nat) : ∀ (n : Nat) (x2 : Int32) (y3 : Int64) (y5 : Int64) (x7 : Int32) (S : xS), Rcr S0 S → KFo Rcr S0 (f_X2_found_23 N n x2 y3 y5 x7 S) := by
  intro n
  induction n with
  | zero => intro x2 y3 y5 x7 S _; exact K_non
  | succ n ih =>
    intro x2 y3 y5 x7 S hS
    rw [f_X2_found_23.eq_2]
    exact (K_ite (K_ret hS) (K_ite (fr_f_X2_found_60 _ _ (fun z0 z1 z2 z3 z4 hh => ih z0 z1 z2 z3 z4 hh) _ _ _ _ _ hS) (K_xcI (fr_f_X2_within _ _ _ _ hS) (fun v18 S17 hS17 => (K_ite (fr_f_X2_found_60 _ _ (fun z0 z1 z2 z3 z4 hh => ih z0 z1 z2 z3 z4 hh) _ _ _ _ _ hS17) (fr_f_X2_found_60 _ _ (fun z0 z1 z2 z3 z4 hh => ih z0 z1 z2 z3 z4 hh) _ _ _ _ _ hS17))))))
theorem fr_f_X2_found {S0 : xS} (N : Nat) (x1 : Int32) (x2 : Int32) (S : xS) (hS : Rcr S0 S) : KFo Rcr S0 (f_X2_found N x1 x2 S) := by
  unfold f_X2_found
  exact (K_xin (fun _ => (K_ite (K_ret hS) (fr_f_X2_found_23 _ _ _ _ _ _ _ hS))) K_non)
theorem fr_f_J13_bitCount_95d88 {S0 : xS} (N : Nat) (y0 : Int64) (S : xS) (hS : Rcr S0 S) : KFo Rcr S0 (f_J13_bitCount_95d88 N y0 S) := by
  unfold f_J13_bitCount_95d88
  exact (K_ret hS)
theorem fr_f_X2_aggregate_131 {S0 : xS} (N : Nat) (k36 : Nat → Int64 → Int32 → Int32 → Int32 → xS → Option xr) (hk36 : ∀ (z0 : Nat) (z1 : Int64) (z2 : Int32) (z3 : Int32) (z4 : Int32) (z5 : xS), Rcr S0 z5 → KFo Rcr S0 (k36 z0 z1 z2 z3 z4 z5)) (a1 : Nat) (y2 : Int64) (x4 : Int32) (x5 : Int32) (x6 : Int32) (S : xS) (hS : Rcr S0 S) : KFo Rcr S0 (f_X2_aggregate_131 N k36 a1 y2 x4 x5 x6 S) := by
  unfold f_X2_aggregate_131
  exact (hk36 _ _ _ _ _ _ hS)
theorem fr_f_X2_aggregate_128 {S0 : xS} (N : Nat) (k36 : Nat → Int64 → Int32 → Int32 → Int32 → xS → Option xr) (hk36 : ∀ (z0 : Nat) (z1 : Int64) (z2 : Int32) (z3 : Int32) (z4 : Int32) (z5 : xS), Rcr S0 z5 → KFo Rcr S0 (k36 z0 z1 z2 z3 z4 z5)) (a1 : Nat) (y2 : Int64) (x4 : Int32) (x6 : Int32) (S : xS) (hS : Rcr S0 S) : KFo Rcr S0 (f_X2_aggregate_128 N k36 a1 y2 x4 x6 S) := by
  unfold f_X2_aggregate_128
  exact (fr_f_X2_aggregate_131 _ _ hk36 _ _ _ _ _ _ hS)
theorem fr_f_X2_aggregate_124 {S0 : xS} (N : Nat) (k36 : Nat → Int64 → Int32 → Int32 → Int32 → xS → Option xr) (hk36 : ∀ (z0 : Nat) (z1 : Int64) (z2 : Int32) (z3 : Int32) (z4 : Int32) (z5 : xS), Rcr S0 z5 → KFo Rcr S0 (k36 z0 z1 z2 z3 z4 z5)) (a1 : Nat) (y2 : Int64) (x6 : Int32) (x7 : Int32) (S : xS) (hS : Rcr S0 S) : KFo Rcr S0 (f_X2_aggregate_124 N k36 a1 y2 x6 x7 S) := by
  unfold f_X2_aggregate_124
  exact (fr_f_X2_aggregate_128 _ _ hk36 _ _ _ _ _ hS)
theorem fr_f_X2_aggregate_36 {S0 : xS} (N : Nat) : ∀ (n : Nat) (a1 : Nat) (y2 : Int64) (x4 : Int32) (x5 : Int32) (x6 : Int32) (S : xS), Rcr S0 S → KFo Rcr S0 (f_X2_aggregate_36 N n a1 y2 x4 x5 x6 S) := by
  intro n
  induction n with
  | zero => intro a1 y2 x4 x5 x6 S _; exact K_non
  | succ n ih =>
    intro a1 y2 x4 x5 x6 S hS
    rw [f_X2_aggregate_36.eq_2]
    exact (K_ite (K_ret hS) (K_ite (fr_f_X2_aggregate_131 _ _ (fun z0 z1 z2 z3 z4 z5 hh => ih z0 z1 z2 z3 z4 z5 hh) _ _ _ _ _ _ hS) (K_xin (fun _ => (K_xPart (fun _ => (K_xin (fun _ => (K_ite (fr_f_X2_aggregate_128 _ _ (fun z0 z1 z2 z3 z4 z5 hh => ih z0 z1 z2 z3 z4 z5 hh) _ _ _ _ _ hS) (K_ite (K_ite (K_ite (fr_f_X2_aggregate_128 _ _ (fun z0 z1 z2 z3 z4 z5 hh => ih z0 z1 z2 z3 z4 z5 hh) _ _ _ _ _ hS) (fr_f_X2_aggregate_124 _ _ (fun z0 z1 z2 z3 z4 z5 hh => ih z0 z1 z2 z3 z4 z5 hh) _ _ _ _ _ hS)) (K_ite (fr_f_X2_aggregate_128 _ _ (fun z0 z1 z2 z3 z4 z5 hh => ih z0 z1 z2 z3 z4 z5 hh) _ _ _ _ _ hS) (fr_f_X2_aggregate_124 _ _ (fun z0 z1 z2 z3 z4 z5 hh => ih z0 z1 z2 z3 z4 z5 hh) _ _ _ _ _ hS))) (fr_f_X2_aggregate_124 _ _ (fun z0 z1 z2 z3 z4 z5 hh => ih z0 z1 z2 z3 z4 z5 hh) _ _ _ _ _ hS)))) K_non)) K_non)) K_non)))
theorem fr_f_X2_aggregate {S0 : xS} (N : Nat) (a1 : Nat) (S : xS) (hS : Rcr S0 S) : KFo Rcr S0 (f_X2_aggregate N a1 S) := by
  unfold f_X2_aggregate
  exact (K_xPart (fun _ => (K_xcJ (fr_f_X2_found _ _ _ _ hS) (fun v45 S44 hS44 => (K_ite (K_xcI (fr_f_J13_bitCount_95d88 _ _ _ hS44) (fun v48 S47 hS47 => (K_ret hS47))) (fr_f_X2_aggregate_36 _ _ _ _ _ _ _ _ hS44))))) K_non)
theorem fr_f_X2_value_82 {S0 : xS} (N : Nat) (x1 : Int32) (S : xS) (hS : Rcr S0 S) : KFo Rcr S0 (f_X2_value_82 N x1 S) := by
  unfold f_X2_value_82
  exact (K_xcI (fr_f_X2_within _ _ _ _ hS) (fun v24 S23 hS23 => (K_ret hS23)))
theorem fr_f_X2_value_76 {S0 : xS} (N : Nat) (k2 : Int32 → Int32 → xS → Option xr) (hk2 : ∀ (z0 : Int32) (z1 : Int32) (z2 : xS), Rcr S0 z2 → KFo Rcr S0 (k2 z0 z1 z2)) (x1 : Int32) (x2 : Int32) (S : xS) (hS : Rcr S0 S) : KFo Rcr S0 (f_X2_value_76 N k2 x1 x2 S) := by
  unfold f_X2_value_76
  exact (hk2 _ _ _ hS)
theorem fr_f_X2_value_2 {S0 : xS} (N : Nat) : ∀ (n : Nat) (x1 : Int32) (x2 : Int32) (S : xS), Rcr S0 S → KFo Rcr S0 (f_X2_value_2 N n x1 x2 S) := by
  intro n
  induction n with
  | zero => intro x1 x2 S _; exact K_non
  | succ n ih =>
    intro x1 x2 S hS
    rw [f_X2_value_2.eq_2]
    exact (K_ite (fr_f_X2_value_82 _ _ _ hS) (K_xin (fun _ => (K_ite (fr_f_X2_value_82 _ _ _ hS) (K_ite (fr_f_X2_value_76 _ _ (fun z0 z1 z2 hh => ih z0 z1 z2 hh) _ _ _ hS) (K_ite (fr_f_X2_value_76 _ _ (fun z0 z1 z2 hh => ih z0 z1 z2 hh) _ _ _ hS) (K_xcI (fr_f_X2_aggregate _ _ _ hS) (fun v31 S30 hS30 => (K_xcI (frcr_f_J9_max_7cf53 _ _ _ _ (Rcr_I hS30 (by omega))) (fun v33 S32 hS32 => (fr_f_X2_value_76 _ _ (fun z0 z1 z2 hh => ih z0 z1 z2 hh) _ _ _ hS32))))))))) K_non))
theorem fr_f_X2_value {S0 : xS} (N : Nat) (x1 : Int32) (S : xS) (hS : Rcr S0 S) : KFo Rcr S0 (f_X2_value N x1 S) := by
  unfold f_X2_value
  exact (fr_f_X2_value_2 _ _ _ _ _ hS)
theorem fr_f_X10_taken_4 {S0 : xS} (N : Nat) : ∀ (n : Nat) (y1 : Int64) (x3 : Int32) (S : xS), Rcr S0 S → KFo Rcr S0 (f_X10_taken_4 N n y1 x3 S) := by
  intro n
  induction n with
  | zero => intro y1 x3 S _; exact K_non
  | succ n ih =>
    intro y1 x3 S hS
    rw [f_X10_taken_4.eq_2]
    exact (K_ite (K_ret hS) (K_xin (fun _ => (ih _ _ _ hS)) K_non))
theorem fr_f_X10_taken {S0 : xS} (N : Nat) (S : xS) (hS : Rcr S0 S) : KFo Rcr S0 (f_X10_taken N S) := by
  unfold f_X10_taken
  exact (fr_f_X10_taken_4 _ _ _ _ _ hS)
theorem fr_f_J6_numberOfTrailingZeros_0f7a4_74 {S0 : xS} (N : Nat) (x0 : Int32) (x1 : Int32) (S : xS) (hS : Rcr S0 S) : KFo Rcr S0 (f_J6_numberOfTrailingZeros_0f7a4_74 N x0 x1 S) := by
  unfold f_J6_numberOfTrailingZeros_0f7a4_74
  exact (K_ret hS)
theorem fr_f_J6_numberOfTrailingZeros_0f7a4_62 {S0 : xS} (N : Nat) (x0 : Int32) (x1 : Int32) (S : xS) (hS : Rcr S0 S) : KFo Rcr S0 (f_J6_numberOfTrailingZeros_0f7a4_62 N x0 x1 S) := by
  unfold f_J6_numberOfTrailingZeros_0f7a4_62
  exact (K_ite (fr_f_J6_numberOfTrailingZeros_0f7a4_74 _ _ _ _ hS) (fr_f_J6_numberOfTrailingZeros_0f7a4_74 _ _ _ _ hS))
theorem fr_f_J6_numberOfTrailingZeros_0f7a4_49 {S0 : xS} (N : Nat) (x0 : Int32) (x1 : Int32) (S : xS) (hS : Rcr S0 S) : KFo Rcr S0 (f_J6_numberOfTrailingZeros_0f7a4_49 N x0 x1 S) := by
  unfold f_J6_numberOfTrailingZeros_0f7a4_49
  exact (K_ite (fr_f_J6_numberOfTrailingZeros_0f7a4_62 _ _ _ _ hS) (fr_f_J6_numberOfTrailingZeros_0f7a4_62 _ _ _ _ hS))
theorem fr_f_J6_numberOfTrailingZeros_0f7a4_34 {S0 : xS} (N : Nat) (x0 : Int32) (x1 : Int32) (S : xS) (hS : Rcr S0 S) : KFo Rcr S0 (f_J6_numberOfTrailingZeros_0f7a4_34 N x0 x1 S) := by
  unfold f_J6_numberOfTrailingZeros_0f7a4_34
  exact (K_ite (fr_f_J6_numberOfTrailingZeros_0f7a4_49 _ _ _ _ hS) (fr_f_J6_numberOfTrailingZeros_0f7a4_49 _ _ _ _ hS))
theorem fr_f_J6_numberOfTrailingZeros_0f7a4 {S0 : xS} (N : Nat) (x0 : Int32) (S : xS) (hS : Rcr S0 S) : KFo Rcr S0 (f_J6_numberOfTrailingZeros_0f7a4 N x0 S) := by
  unfold f_J6_numberOfTrailingZeros_0f7a4
  exact (K_ite (K_ite (fr_f_J6_numberOfTrailingZeros_0f7a4_34 _ _ _ _ hS) (fr_f_J6_numberOfTrailingZeros_0f7a4_34 _ _ _ _ hS)) (K_ret hS))
theorem fr_f_J13_numberOfTrailingZeros_95d88_25 {S0 : xS} (N : Nat) (s0 : Int32) (S : xS) (hS : Rcr S0 S) : KFo Rcr S0 (f_J13_numberOfTrailingZeros_95d88_25 N s0 S) := by
  unfold f_J13_numberOfTrailingZeros_95d88_25
  exact (K_ret hS)
theorem fr_f_J13_numberOfTrailingZeros_95d88 {S0 : xS} (N : Nat) (y0 : Int64) (S : xS) (hS : Rcr S0 S) : KFo Rcr S0 (f_J13_numberOfTrailingZeros_95d88 N y0 S) := by
  unfold f_J13_numberOfTrailingZeros_95d88
  exact (K_ite (K_xcI (fr_f_J6_numberOfTrailingZeros_0f7a4 _ _ _ hS) (fun v13 S12 hS12 => (fr_f_J13_numberOfTrailingZeros_95d88_25 _ _ _ hS12))) (K_xcI (fr_f_J6_numberOfTrailingZeros_0f7a4 _ _ _ hS) (fun v15 S14 hS14 => (fr_f_J13_numberOfTrailingZeros_95d88_25 _ _ _ hS14))))
theorem fr_f_X10_add_54 {S0 : xS} (N : Nat) : ∀ (n : Nat) (x2 : Int32) (x3 : Int32) (S : xS), Rcr S0 S → KFo Rcr S0 (f_X10_add_54 N n x2 x3 S) := by
  intro n
  induction n with
  | zero => intro x2 x3 S _; exact K_non
  | succ n ih =>
    intro x2 x3 S hS
    rw [f_X10_add_54.eq_2]
    exact (K_ite (K_ret hS) (K_xin (fun _ => (K_xin (fun _ => (ih _ _ _ (Rcr_I hS (by omega)))) K_non)) K_non))
theorem fr_f_X10_add {S0 : xS} (N : Nat) (x1 : Int32) (S : xS) (hS : Rcr S0 S) : KFo Rcr S0 (f_X10_add N x1 S) := by
  unfold f_X10_add
  exact (K_xcJ (fr_f_X10_taken _ _ hS) (fun v25 S24 hS24 => (K_xcI (fr_f_J13_numberOfTrailingZeros_95d88 _ _ _ hS24) (fun v27 S26 hS26 => (K_ite (K_ret hS26) (K_xin (fun _ => (K_xin (fun _ => (fr_f_X10_add_54 _ _ _ _ _ (Rcr_I (Rcr_I (Rcr_J hS26 (by omega)) (by omega)) (by omega)))) K_non)) K_non))))))
theorem fr_f_X2_put_6 {S0 : xS} (N : Nat) : ∀ (n : Nat) (a1 : Nat) (x2 : Int32) (a3 : Nat) (x4 : Int32) (S : xS), Rcr S0 S → KFo Rcr S0 (f_X2_put_6 N n a1 x2 a3 x4 S) := by
  intro n
  induction n with
  | zero => intro a1 x2 a3 x4 S _; exact K_non
  | succ n ih =>
    intro a1 x2 a3 x4 S hS
    rw [f_X2_put_6.eq_2]
    exact (K_xStep (fun _ => (K_ite (K_ret hS) (K_xin (fun _ => (K_xin (fun _ => (K_xReg414 (fun _ => (K_xin (fun _ => (K_xin (fun _ => (K_xin (fun _ => (ih _ _ _ _ _ (Rcr_I hS (by omega)))) K_non)) K_non)) K_non)) K_non)) K_non)) K_non))) K_non)
theorem fr_f_X2_put {S0 : xS} (N : Nat) (a1 : Nat) (x2 : Int32) (a3 : Nat) (S : xS) (hS : Rcr S0 S) : KFo Rcr S0 (f_X2_put N a1 x2 a3 S) := by
  unfold f_X2_put
  exact (K_xStep (fun _ => (fr_f_X2_put_6 _ _ _ _ _ _ _ hS)) K_non)
theorem fr_f_X2_insert_81 {S0 : xS} (N : Nat) (s0 : Int32) (S : xS) (hS : Rcr S0 S) : KFo Rcr S0 (f_X2_insert_81 N s0 S) := by
  unfold f_X2_insert_81
  exact (K_ite (K_ret hS) K_non)
theorem fr_f_X2_insert_71 {S0 : xS} (N : Nat) (x3 : Int32) (S : xS) (hS : Rcr S0 S) : KFo Rcr S0 (f_X2_insert_71 N x3 S) := by
  unfold f_X2_insert_71
  exact (K_ite (fr_f_X2_insert_81 _ _ _ hS) (fr_f_X2_insert_81 _ _ _ hS))
theorem fr_f_X2_insert_12 {S0 : xS} (N : Nat) : ∀ (n : Nat) (a1 : Nat) (a2 : Nat) (x3 : Int32) (S : xS), Rcr S0 S → KFo Rcr S0 (f_X2_insert_12 N n a1 a2 x3 S) := by
  intro n
  induction n with
  | zero => intro a1 a2 x3 S _; exact K_non
  | succ n ih =>
    intro a1 a2 x3 S hS
    rw [f_X2_insert_12.eq_2]
    exact (K_xStep (fun _ => (K_ite (K_xcI (fr_f_X10_add _ _ _ hS) (fun v38 S37 hS37 => (K_ite (fr_f_X2_insert_71 _ _ _ hS37) (K_xcV (fr_f_X2_put _ _ _ _ _ hS37) (fun S40 hS40 => (fr_f_X2_insert_71 _ _ _ hS40)))))) (K_xin (fun _ => (K_xcI (fr_f_X2_value _ _ _ hS) (fun v44 S43 hS43 => (K_xReg414 (fun _ => (K_xin (fun _ => (ih _ _ _ _ (Rcr_I hS43 (by omega)))) K_non)) K_non)))) K_non))) K_non)
theorem fr_f_X2_insert {S0 : xS} (N : Nat) (a1 : Nat) (S : xS) (hS : Rcr S0 S) : KFo Rcr S0 (f_X2_insert N a1 S) := by
  unfold f_X2_insert
  exact (K_xin (fun _ => (K_xStep (fun _ => (fr_f_X2_insert_12 _ _ _ _ _ _ hS)) K_non)) K_non)
theorem fr_f_X10_free_43 {S0 : xS} (N : Nat) (k17 : Int64 → Int32 → xS → Option xr) (hk17 : ∀ (z0 : Int64) (z1 : Int32) (z2 : xS), Rcr S0 z2 → KFo Rcr S0 (k17 z0 z1 z2)) (y2 : Int64) (x4 : Int32) (S : xS) (hS : Rcr S0 S) : KFo Rcr S0 (f_X10_free_43 N k17 y2 x4 S) := by
  unfold f_X10_free_43
  exact (hk17 _ _ _ hS)
theorem fr_f_X10_free_17 {S0 : xS} (N : Nat) : ∀ (n : Nat) (y2 : Int64) (x4 : Int32) (S : xS), Rcr S0 S → KFo Rcr S0 (f_X10_free_17 N n y2 x4 S) := by
  intro n
  induction n with
  | zero => intro y2 x4 S _; exact K_non
  | succ n ih =>
    intro y2 x4 S hS
    rw [f_X10_free_17.eq_2]
    exact (K_ite (K_ret hS) (K_ite (fr_f_X10_free_43 _ _ (fun z0 z1 z2 hh => ih z0 z1 z2 hh) _ _ _ hS) (K_xin (fun _ => (fr_f_X10_free_43 _ _ (fun z0 z1 z2 hh => ih z0 z1 z2 hh) _ _ _ (Rcr_I hS (by omega)))) K_non)))
theorem fr_f_X10_free {S0 : xS} (N : Nat) (x1 : Int32) (y2 : Int64) (S : xS) (hS : Rcr S0 S) : KFo Rcr S0 (f_X10_free N x1 y2 S) := by
  unfold f_X10_free
  exact (K_xin (fun _ => (fr_f_X10_free_17 _ _ _ _ _ (Rcr_J hS (by omega)))) K_non)
theorem fr_f_X2_set_127 {S0 : xS} (N : Nat) (k95 : Nat → Int64 → Int32 → xS → Option xr) (hk95 : ∀ (z0 : Nat) (z1 : Int64) (z2 : Int32) (z3 : xS), Rcr S0 z3 → KFo Rcr S0 (k95 z0 z1 z2 z3)) (a1 : Nat) (y2 : Int64) (x4 : Int32) (S : xS) (hS : Rcr S0 S) : KFo Rcr S0 (f_X2_set_127 N k95 a1 y2 x4 S) := by
  unfold f_X2_set_127
  exact (hk95 _ _ _ _ hS)
theorem fr_f_X2_set_95 {S0 : xS} (N : Nat) : ∀ (n : Nat) (a1 : Nat) (y2 : Int64) (x4 : Int32) (S : xS), Rcr S0 S → KFo Rcr S0 (f_X2_set_95 N n a1 y2 x4 S) := by
  intro n
  induction n with
  | zero => intro a1 y2 x4 S _; exact K_non
  | succ n ih =>
    intro a1 y2 x4 S hS
    rw [f_X2_set_95.eq_2]
    exact (K_ite (K_ret hS) (K_ite (fr_f_X2_set_127 _ _ (fun z0 z1 z2 z3 hh => ih z0 z1 z2 z3 hh) _ _ _ _ hS) (K_xin (fun _ => (K_xcV (fr_f_X2_put _ _ _ _ _ hS) (fun S40 hS40 => (fr_f_X2_set_127 _ _ (fun z0 z1 z2 z3 hh => ih z0 z1 z2 z3 hh) _ _ _ _ hS40)))) K_non)))
theorem fr_f_X2_set_86 {S0 : xS} (N : Nat) (k16 : Nat → Int64 → Int32 → xS → Option xr) (hk16 : ∀ (z0 : Nat) (z1 : Int64) (z2 : Int32) (z3 : xS), Rcr S0 z3 → KFo Rcr S0 (k16 z0 z1 z2 z3)) (a1 : Nat) (y2 : Int64) (x4 : Int32) (S : xS) (hS : Rcr S0 S) : KFo Rcr S0 (f_X2_set_86 N k16 a1 y2 x4 S) := by
  unfold f_X2_set_86
  exact (hk16 _ _ _ _ hS)
theorem fr_f_X2_set_29 {S0 : xS} (N : Nat) (k16 : Nat → Int64 → Int32 → xS → Option xr) (hk16 : ∀ (z0 : Nat) (z1 : Int64) (z2 : Int32) (z3 : xS), Rcr S0 z3 → KFo Rcr S0 (k16 z0 z1 z2 z3)) : ∀ (n : Nat) (a1 : Nat) (y2 : Int64) (x4 : Int32) (x5 : Int32) (S : xS), Rcr S0 S → KFo Rcr S0 (f_X2_set_29 N k16 n a1 y2 x4 x5 S) := by
  intro n
  induction n with
  | zero => intro a1 y2 x4 x5 S _; exact K_non
  | succ n ih =>
    intro a1 y2 x4 x5 S hS
    rw [f_X2_set_29.eq_2]
    exact (K_xStep (fun _ => (K_ite (fr_f_X2_set_86 _ _ hk16 _ _ _ _ hS) (K_ite (fr_f_X2_set_86 _ _ hk16 _ _ _ _ hS) (K_xin (fun _ => (K_xin (fun _ => (K_xcI (fr_f_X2_within _ _ _ _ hS) (fun v48 S47 hS47 => (K_xin (fun _ => (ih _ _ _ _ _ (Rcr_I hS47 (by omega)))) K_non)))) K_non)) K_non)))) K_non)
theorem fr_f_X2_set_16 {S0 : xS} (N : Nat) : ∀ (n : Nat) (a1 : Nat) (y2 : Int64) (x4 : Int32) (S : xS), Rcr S0 S → KFo Rcr S0 (f_X2_set_16 N n a1 y2 x4 S) := by
  intro n
  induction n with
  | zero => intro a1 y2 x4 S _; exact K_non
  | succ n ih =>
    intro a1 y2 x4 S hS
    rw [f_X2_set_16.eq_2]
    exact (K_ite (fr_f_X2_set_95 _ _ _ _ _ _ hS) (K_xStep (fun _ => (fr_f_X2_set_29 _ _ (fun z0 z1 z2 z3 hh => ih z0 z1 z2 z3 hh) _ _ _ _ _ _ hS)) K_non))
theorem fr_f_X2_set {S0 : xS} (N : Nat) (a1 : Nat) (S : xS) (hS : Rcr S0 S) : KFo Rcr S0 (f_X2_set N a1 S) := by
  unfold f_X2_set
  exact (K_xStep (fun _ => (K_xcJ (fr_f_X2_found _ _ _ _ hS) (fun v54 S53 hS53 => (fr_f_X2_set_16 _ _ _ _ _ _ hS53)))) K_non)
theorem fr_f_X2_change_50 {S0 : xS} (N : Nat) (S : xS) (hS : Rcr S0 S) : KFo Rcr S0 (f_X2_change_50 N S) := by
  unfold f_X2_change_50
  exact (K_ret hS)
theorem fr_f_X2_change {S0 : xS} (N : Nat) (a1 : Nat) (x2 : Int32) (S : xS) (hS : Rcr S0 S) : KFo Rcr S0 (f_X2_change N a1 x2 S) := by
  unfold f_X2_change
  exact (K_xStep (fun _ => (K_xcI (fr_f_X0_at _ _ _ hS) (fun v17 S16 hS16 => (K_ite (fr_f_X2_change_50 _ _ hS16) (K_xin (fun _ => (K_xin (fun _ => (K_xin (fun _ => (fr_f_X2_change_50 _ _ (Rcr_I hS16 (by omega)))) K_non)) K_non)) K_non))))) K_non)
theorem fr_f_X2_remove_31 {S0 : xS} (N : Nat) (S : xS) (hS : Rcr S0 S) : KFo Rcr S0 (f_X2_remove_31 N S) := by
  unfold f_X2_remove_31
  exact (K_ret hS)
theorem fr_f_X2_remove {S0 : xS} (N : Nat) (a1 : Nat) (S : xS) (hS : Rcr S0 S) : KFo Rcr S0 (f_X2_remove N a1 S) := by
  unfold f_X2_remove
  exact (K_xStep (fun _ => (K_xcI (fr_f_X0_at _ _ _ hS) (fun v15 S14 hS14 => (K_ite (fr_f_X2_remove_31 _ _ hS14) (K_xcV (fr_f_X10_free _ _ _ _ hS14) (fun S17 hS17 => (fr_f_X2_remove_31 _ _ hS17))))))) K_non)
theorem fr_f_X2_act_213 {S0 : xS} (N : Nat) (S : xS) (hS : Rcr S0 S) : KFo Rcr S0 (f_X2_act_213 N S) := by
  unfold f_X2_act_213
  exact (K_ret hS)
theorem fr_f_X2_act {S0 : xS} (N : Nat) (a1 : Nat) (S : xS) (hS : Rcr S0 S) : KFo Rcr S0 (f_X2_act N a1 S) := by
  unfold f_X2_act
  exact (K_xStep (fun _ => (K_ite (K_xcJ (fr_f_X2_found _ _ _ _ hS) (fun v64 S63 hS63 => (K_xcV (fr_f_X10_free _ _ _ _ hS63) (fun S65 hS65 => (fr_f_X2_act_213 _ _ hS65))))) (K_ite (K_xcV (fr_f_X2_set _ _ _ hS) (fun S68 hS68 => (fr_f_X2_act_213 _ _ hS68))) (K_ite (K_xcI (fr_f_X2_value _ _ _ hS) (fun v72 S71 hS71 => (K_xin (fun _ => (fr_f_X2_act_213 _ _ (Rcr_I hS71 (by omega)))) K_non))) (K_ite (K_xcI (fr_f_X2_value _ _ _ hS) (fun v76 S75 hS75 => (K_xin (fun _ => (fr_f_X2_act_213 _ _ (Rcr_I (Rcr_I hS75 (by omega)) (by omega)))) K_non))) (K_ite (K_xcJ (fr_f_X2_found _ _ _ _ hS) (fun v80 S79 hS79 => (K_xcV (fr_f_X0_begin _ _ _ _ _ hS79) (fun S81 hS81 => (fr_f_X2_act_213 _ _ hS81))))) (K_ite (K_xcV (fr_f_X2_remove _ _ _ hS) (fun S84 hS84 => (fr_f_X2_act_213 _ _ hS84))) (K_ite (K_xcI (fr_f_X2_value _ _ _ hS) (fun v88 S87 hS87 => (K_xcV (fr_f_X2_change _ _ _ _ hS87) (fun S89 hS89 => (fr_f_X2_act_213 _ _ hS89))))) (fr_f_X2_act_213 _ _ hS))))))))) K_non)
theorem fr_f_X2_goThrough_218 {S0 : xS} (N : Nat) (S : xS) (hS : Rcr S0 S) : KFo Rcr S0 (f_X2_goThrough_218 N S) := by
  unfold f_X2_goThrough_218
  exact (K_ret hS)
theorem fr_f_X2_goThrough_212 {S0 : xS} (N : Nat) (k14 : Int32 → Int32 → xS → Option xr) (hk14 : ∀ (z0 : Int32) (z1 : Int32) (z2 : xS), Rcr S0 z2 → KFo Rcr S0 (k14 z0 z1 z2)) (x2 : Int32) (x3 : Int32) (S : xS) (hS : Rcr S0 S) : KFo Rcr S0 (f_X2_goThrough_212 N k14 x2 x3 S) := by
  unfold f_X2_goThrough_212
  exact (hk14 _ _ _ hS)
theorem fr_f_X2_goThrough_193 {S0 : xS} (N : Nat) (k14 : Int32 → Int32 → xS → Option xr) (hk14 : ∀ (z0 : Int32) (z1 : Int32) (z2 : xS), Rcr S0 z2 → KFo Rcr S0 (k14 z0 z1 z2)) (x3 : Int32) (s0 : Int32) (S : xS) (hS : Rcr S0 S) : KFo Rcr S0 (f_X2_goThrough_193 N k14 x3 s0 S) := by
  unfold f_X2_goThrough_193
  exact (fr_f_X2_goThrough_212 _ _ hk14 _ _ _ hS)
theorem fr_f_X2_goThrough_74 {S0 : xS} (N : Nat) (k14 : Int32 → Int32 → xS → Option xr) (hk14 : ∀ (z0 : Int32) (z1 : Int32) (z2 : xS), Rcr S0 z2 → KFo Rcr S0 (k14 z0 z1 z2)) (x2 : Int32) (x3 : Int32) (a4 : Nat) (S : xS) (hS : Rcr S0 S) : KFo Rcr S0 (f_X2_goThrough_74 N k14 x2 x3 a4 S) := by
  unfold f_X2_goThrough_74
  exact (K_xStep (fun _ => (K_ite (K_xcI (fr_f_X2_insert _ _ _ hS) (fun v58 S57 hS57 => (K_ite (K_ret hS57) (fr_f_X2_goThrough_212 _ _ hk14 _ _ _ hS57)))) (K_ite (K_xcI (fr_f_X2_value _ _ _ hS) (fun v62 S61 hS61 => (K_ite (fr_f_X2_goThrough_193 _ _ hk14 _ _ _ hS61) (fr_f_X2_goThrough_193 _ _ hk14 _ _ _ hS61)))) (K_ite (K_xcI (fr_f_X0_moves _ _ _ hS) (fun v66 S65 hS65 => (K_ite (fr_f_X2_goThrough_212 _ _ hk14 _ _ _ hS65) (K_xcI (fr_f_X2_spend _ _ hS65) (fun v69 S68 hS68 => (K_ite (K_ret hS68) (fr_f_X2_goThrough_212 _ _ hk14 _ _ _ hS68))))))) (K_ite (fr_f_X2_goThrough_212 _ _ hk14 _ _ _ hS) (K_xcV (fr_f_X2_act _ _ _ hS) (fun S72 hS72 => (fr_f_X2_goThrough_212 _ _ hk14 _ _ _ hS72)))))))) K_non)
theorem fr_f_X2_goThrough_14 {S0 : xS} (N : Nat) : ∀ (n : Nat) (x2 : Int32) (x3 : Int32) (S : xS), Rcr S0 S → KFo Rcr S0 (f_X2_goThrough_14 N n x2 x3 S) := by
  intro n
  induction n with
  | zero => intro x2 x3 S _; exact K_non
  | succ n ih =>
    intro x2 x3 S hS
    rw [f_X2_goThrough_14.eq_2]
    exact (K_ite (fr_f_X2_goThrough_218 _ _ hS) (K_ite (fr_f_X2_goThrough_218 _ _ hS) (K_xin (fun _ => (K_ite (fr_f_X2_goThrough_74 _ _ (fun z0 z1 z2 hh => ih z0 z1 z2 hh) _ _ _ _ hS) (K_ite (fr_f_X2_goThrough_74 _ _ (fun z0 z1 z2 hh => ih z0 z1 z2 hh) _ _ _ _ hS) (K_xcI (fr_f_X2_spend _ _ hS) (fun v80 S79 hS79 => (K_ite (K_ret hS79) (fr_f_X2_goThrough_74 _ _ (fun z0 z1 z2 hh => ih z0 z1 z2 hh) _ _ _ _ hS79))))))) K_non)))
