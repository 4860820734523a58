/-! frames: rr -/
theorem fr_f_X12_valueOf_24 {S0 : xS} (N : Nat) (s0 : Int32) (S : xS) (hS : Rrr S0 S) : KFo Rrr S0 (f_X12_valueOf_24 N s0 S) := by
  unfold f_X12_valueOf_24
  exact (K_ret hS)
theorem fr_f_X12_valueOf {S0 : xS} (N : Nat) (x1 : Int32) (x2 : Int32) (S : xS) (hS : Rrr S0 S) : KFo Rrr S0 (f_X12_valueOf N x1 x2 S) := by
  unfold f_X12_valueOf
  exact (K_xin (fun _ => (K_ite (fr_f_X12_valueOf_24 _ _ _ hS) (K_xin (fun _ => (fr_f_X12_valueOf_24 _ _ _ hS)) K_non))) K_non)
theorem fr_f_X12_cut_32 {S0 : xS} (N : Nat) (s0 : Int32) (S : xS) (hS : Rrr S0 S) : KFo Rrr S0 (f_X12_cut_32 N s0 S) := by
  unfold f_X12_cut_32
  exact (K_ret hS)
theorem fr_f_X12_cut {S0 : xS} (N : Nat) (x1 : Int32) (x2 : Int32) (x3 : Int32) (S : xS) (hS : Rrr S0 S) : KFo Rrr S0 (f_X12_cut N x1 x2 x3 S) := by
  unfold f_X12_cut
  exact (K_xin (fun _ => (K_ite (fr_f_X12_cut_32 _ _ _ hS) (fr_f_X12_cut_32 _ _ _ hS))) K_non)
theorem fr_f_X12_operate_77 {S0 : xS} (N : Nat) (s0 : Int32) (S : xS) (hS : Rrr S0 S) : KFo Rrr S0 (f_X12_operate_77 N s0 S) := by
  unfold f_X12_operate_77
  exact (K_ret hS)
theorem fr_f_X12_operate_72 {S0 : xS} (N : Nat) (S : xS) (hS : Rrr S0 S) : KFo Rrr S0 (f_X12_operate_72 N S) := by
  unfold f_X12_operate_72
  exact (fr_f_X12_operate_77 _ _ _ hS)
theorem fr_f_X12_operate_91 {S0 : xS} (N : Nat) (s0 : Int32) (S : xS) (hS : Rrr S0 S) : KFo Rrr S0 (f_X12_operate_91 N s0 S) := by
  unfold f_X12_operate_91
  exact (K_ret hS)
theorem fr_f_X12_operate_90 {S0 : xS} (N : Nat) (S : xS) (hS : Rrr S0 S) : KFo Rrr S0 (f_X12_operate_90 N S) := by
  unfold f_X12_operate_90
  exact (fr_f_X12_operate_91 _ _ _ hS)
theorem fr_f_X12_operate_102 {S0 : xS} (N : Nat) (s0 : Int32) (S : xS) (hS : Rrr S0 S) : KFo Rrr S0 (f_X12_operate_102 N s0 S) := by
  unfold f_X12_operate_102
  exact (K_ret hS)
theorem fr_f_X12_operate_113 {S0 : xS} (N : Nat) (s0 : Int32) (S : xS) (hS : Rrr S0 S) : KFo Rrr S0 (f_X12_operate_113 N s0 S) := by
  unfold f_X12_operate_113
  exact (K_ret hS)
theorem fr_f_X12_operate_124 {S0 : xS} (N : Nat) (s0 : Int32) (S : xS) (hS : Rrr S0 S) : KFo Rrr S0 (f_X12_operate_124 N s0 S) := by
  unfold f_X12_operate_124
  exact (K_ret hS)
theorem fr_f_X12_operate_135 {S0 : xS} (N : Nat) (s0 : Int32) (S : xS) (hS : Rrr S0 S) : KFo Rrr S0 (f_X12_operate_135 N s0 S) := by
  unfold f_X12_operate_135
  exact (K_ret hS)
theorem fr_f_X12_operate_146 {S0 : xS} (N : Nat) (s0 : Int32) (S : xS) (hS : Rrr S0 S) : KFo Rrr S0 (f_X12_operate_146 N s0 S) := by
  unfold f_X12_operate_146
  exact (K_ret hS)
theorem fr_f_X12_operate_157 {S0 : xS} (N : Nat) (s0 : Int32) (S : xS) (hS : Rrr S0 S) : KFo Rrr S0 (f_X12_operate_157 N s0 S) := by
  unfold f_X12_operate_157
  exact (K_ret hS)
theorem fr_f_X12_operate_181 {S0 : xS} (N : Nat) (s0 : Int32) (S : xS) (hS : Rrr S0 S) : KFo Rrr S0 (f_X12_operate_181 N s0 S) := by
  unfold f_X12_operate_181
  exact (K_ret hS)
theorem fr_f_X12_operate_193 {S0 : xS} (N : Nat) (s0 : Int32) (S : xS) (hS : Rrr S0 S) : KFo Rrr S0 (f_X12_operate_193 N s0 S) := by
  unfold f_X12_operate_193
  exact (K_ret hS)
theorem fr_f_X12_operate {S0 : xS} (N : Nat) (x0 : Int32) (x1 : Int32) (x2 : Int32) (S : xS) (hS : Rrr S0 S) : KFo Rrr S0 (f_X12_operate N x0 x1 x2 S) := by
  unfold f_X12_operate
  exact (K_ite (K_ite (K_ite (fr_f_X12_operate_77 _ _ _ hS) (fr_f_X12_operate_72 _ _ hS)) (fr_f_X12_operate_72 _ _ hS)) (K_ite (K_ite (fr_f_X12_operate_90 _ _ hS) (K_ite (fr_f_X12_operate_90 _ _ hS) (fr_f_X12_operate_91 _ _ _ hS))) (K_ite (K_ite (fr_f_X12_operate_102 _ _ _ hS) (fr_f_X12_operate_102 _ _ _ hS)) (K_ite (K_ite (fr_f_X12_operate_113 _ _ _ hS) (fr_f_X12_operate_113 _ _ _ hS)) (K_ite (K_ite (fr_f_X12_operate_124 _ _ _ hS) (fr_f_X12_operate_124 _ _ _ hS)) (K_ite (K_ite (fr_f_X12_operate_135 _ _ _ hS) (fr_f_X12_operate_135 _ _ _ hS)) (K_ite (K_ite (fr_f_X12_operate_146 _ _ _ hS) (fr_f_X12_operate_146 _ _ _ hS)) (K_ite (K_ite (fr_f_X12_operate_157 _ _ _ hS) (fr_f_X12_operate_157 _ _ _ hS)) (K_ite (K_ret hS) (K_ite (K_ret hS) (K_ite (K_ret hS) (K_ite (K_ite (fr_f_X12_operate_181 _ _ _ hS) (K_ite (fr_f_X12_operate_181 _ _ _ hS) K_non)) (K_ite (fr_f_X12_operate_193 _ _ _ hS) (K_ite (fr_f_X12_operate_193 _ _ _ hS) K_non))))))))))))))
theorem fr_f_X12_nextOf_26 {S0 : xS} (N : Nat) (x3 : Int32) (S : xS) (hS : Rrr S0 S) : KFo Rrr S0 (f_X12_nextOf_26 N x3 S) := by
  unfold f_X12_nextOf_26
  exact (K_ret hS)
theorem fr_f_X12_nextOf_2 {S0 : xS} (N : Nat) : ∀ (n : Nat) (x1 : Int32) (x3 : Int32) (S : xS), Rrr S0 S → KFo Rrr S0 (f_X12_nextOf_2 N n x1 x3 S) := by
  intro n
  induction n with
  | zero => intro x1 x3 S _; exact K_non
  | succ n ih =>
    intro x1 x3 S hS
    rw [f_X12_nextOf_2.eq_2]
    exact (K_ite (fr_f_X12_nextOf_26 _ _ _ hS) (K_xin (fun _ => (K_ite (fr_f_X12_nextOf_26 _ _ _ hS) (ih _ _ _ hS))) K_non))
theorem fr_f_X12_nextOf {S0 : xS} (N : Nat) (x1 : Int32) (x2 : Int32) (S : xS) (hS : Rrr S0 S) : KFo Rrr S0 (f_X12_nextOf N x1 x2 S) := by
  unfold f_X12_nextOf
  exact (fr_f_X12_nextOf_2 _ _ _ _ _ hS)
theorem fr_f_X12_cursorThere_48 {S0 : xS} (N : Nat) (s0 : Int32) (S : xS) (hS : Rrr S0 S) : KFo Rrr S0 (f_X12_cursorThere_48 N s0 S) := by
  unfold f_X12_cursorThere_48
  exact (K_ite (K_ret hS) K_non)
theorem fr_f_X12_cursorThere_47 {S0 : xS} (N : Nat) (S : xS) (hS : Rrr S0 S) : KFo Rrr S0 (f_X12_cursorThere_47 N S) := by
  unfold f_X12_cursorThere_47
  exact (fr_f_X12_cursorThere_48 _ _ _ hS)
theorem fr_f_X12_cursorThere {S0 : xS} (N : Nat) (x1 : Int32) (S : xS) (hS : Rrr S0 S) : KFo Rrr S0 (f_X12_cursorThere N x1 S) := by
  unfold f_X12_cursorThere
  exact (K_xin (fun _ => (K_xin (fun _ => (K_xin (fun _ => (K_ite (fr_f_X12_cursorThere_47 _ _ hS) (K_ite (fr_f_X12_cursorThere_48 _ _ _ hS) (fr_f_X12_cursorThere_47 _ _ hS)))) K_non)) K_non)) K_non)
theorem fr_f_X12_aggregated_57 {S0 : xS} (N : Nat) (s0 : Int32) (S : xS) (hS : Rrr S0 S) : KFo Rrr S0 (f_X12_aggregated_57 N s0 S) := by
  unfold f_X12_aggregated_57
  exact (K_ret hS)
theorem fr_f_X12_aggregated {S0 : xS} (N : Nat) (x1 : Int32) (x2 : Int32) (x3 : Int32) (x4 : Int32) (S : xS) (hS : Rrr S0 S) : KFo Rrr S0 (f_X12_aggregated N x1 x2 x3 x4 S) := by
  unfold f_X12_aggregated
  exact (K_ite (K_ret hS) (K_ite (K_ret hS) (K_ite (K_ret hS) (K_ite (K_ite (fr_f_X12_aggregated_57 _ _ _ hS) (fr_f_X12_aggregated_57 _ _ _ hS)) (K_ite (fr_f_X12_aggregated_57 _ _ _ hS) (fr_f_X12_aggregated_57 _ _ _ hS))))))
theorem fr_f_X12_endOf_45 {S0 : xS} (N : Nat) (k4 : Int32 → xS → Option xr) (hk4 : ∀ (z0 : Int32) (z1 : xS), Rrr S0 z1 → KFo Rrr S0 (k4 z0 z1)) (s0 : Int32) (s1 : Int32) (S : xS) (hS : Rrr S0 S) : KFo Rrr S0 (f_X12_endOf_45 N k4 s0 s1 S) := by
  unfold f_X12_endOf_45
  exact (hk4 _ _ hS)
theorem fr_f_X12_endOf_4 {S0 : xS} (N : Nat) : ∀ (n : Nat) (x2 : Int32) (S : xS), Rrr S0 S → KFo Rrr S0 (f_X12_endOf_4 N n x2 S) := by
  intro n
  induction n with
  | zero => intro x2 S _; exact K_non
  | succ n ih =>
    intro x2 S hS
    rw [f_X12_endOf_4.eq_2]
    exact (K_xin (fun _ => (K_ite (K_ret hS) (K_ite (fr_f_X12_endOf_45 _ _ (fun z0 z1 hh => ih z0 z1 hh) _ _ _ hS) (K_ite (fr_f_X12_endOf_45 _ _ (fun z0 z1 hh => ih z0 z1 hh) _ _ _ hS) (fr_f_X12_endOf_45 _ _ (fun z0 z1 hh => ih z0 z1 hh) _ _ _ hS))))) K_non)
theorem fr_f_X12_endOf {S0 : xS} (N : Nat) (x1 : Int32) (S : xS) (hS : Rrr S0 S) : KFo Rrr S0 (f_X12_endOf N x1 S) := by
  unfold f_X12_endOf
  exact (fr_f_X12_endOf_4 _ _ _ _ hS)
theorem fr_f_X12_eval_502 {S0 : xS} (N : Nat) (k18 : Int32 → Int32 → Int32 → Int32 → Int32 → Int32 → Int32 → Int32 → xS → Option xr) (hk18 : ∀ (z0 : Int32) (z1 : Int32) (z2 : Int32) (z3 : Int32) (z4 : Int32) (z5 : Int32) (z6 : Int32) (z7 : Int32) (z8 : xS), Rrr S0 z8 → KFo Rrr S0 (k18 z0 z1 z2 z3 z4 z5 z6 z7 z8)) (x1 : Int32) (x2 : Int32) (x4 : Int32) (x5 : Int32) (x6 : Int32) (x7 : Int32) (x8 : Int32) (x9 : Int32) (S : xS) (hS : Rrr S0 S) : KFo Rrr S0 (f_X12_eval_502 N k18 x1 x2 x4 x5 x6 x7 x8 x9 S) := by
  unfold f_X12_eval_502
  exact (hk18 _ _ _ _ _ _ _ _ _ hS)
theorem fr_f_X12_eval_273 {S0 : xS} (N : Nat) (k18 : Int32 → Int32 → Int32 → Int32 → Int32 → Int32 → Int32 → Int32 → xS → Option xr) (hk18 : ∀ (z0 : Int32) (z1 : Int32) (z2 : Int32) (z3 : Int32) (z4 : Int32) (z5 : Int32) (z6 : Int32) (z7 : Int32) (z8 : xS), Rrr S0 z8 → KFo Rrr S0 (k18 z0 z1 z2 z3 z4 z5 z6 z7 z8)) (x1 : Int32) (x2 : Int32) (x4 : Int32) (x5 : Int32) (x6 : Int32) (x7 : Int32) (x8 : Int32) (x9 : Int32) (s0 : Int32) (s1 : Int32) (S : xS) (hS : Rrr S0 S) : KFo Rrr S0 (f_X12_eval_273 N k18 x1 x2 x4 x5 x6 x7 x8 x9 s0 s1 S) := by
  unfold f_X12_eval_273
  exact (K_xin (fun _ => (fr_f_X12_eval_502 _ _ hk18 _ _ _ _ _ _ _ _ _ (Rrr_I hS (by omega)))) K_non)
theorem fr_f_X12_eval_229 {S0 : xS} (N : Nat) (k18 : Int32 → Int32 → Int32 → Int32 → Int32 → Int32 → Int32 → Int32 → xS → Option xr) (hk18 : ∀ (z0 : Int32) (z1 : Int32) (z2 : Int32) (z3 : Int32) (z4 : Int32) (z5 : Int32) (z6 : Int32) (z7 : Int32) (z8 : xS), Rrr S0 z8 → KFo Rrr S0 (k18 z0 z1 z2 z3 z4 z5 z6 z7 z8)) (x1 : Int32) (x2 : Int32) (x4 : Int32) (x5 : Int32) (x6 : Int32) (x7 : Int32) (x8 : Int32) (x9 : Int32) (x10 : Int32) (S : xS) (hS : Rrr S0 S) : KFo Rrr S0 (f_X12_eval_229 N k18 x1 x2 x4 x5 x6 x7 x8 x9 x10 S) := by
  unfold f_X12_eval_229
  exact (K_ite (K_xin (fun _ => (fr_f_X12_eval_273 _ _ hk18 _ _ _ _ _ _ _ _ _ _ _ hS)) K_non) (K_xin (fun _ => (K_ite (fr_f_X12_eval_273 _ _ hk18 _ _ _ _ _ _ _ _ _ _ _ hS) (fr_f_X12_eval_273 _ _ hk18 _ _ _ _ _ _ _ _ _ _ _ hS))) K_non))
theorem fr_f_X12_eval_413 {S0 : xS} (N : Nat) (k18 : Int32 → Int32 → Int32 → Int32 → Int32 → Int32 → Int32 → Int32 → xS → Option xr) (hk18 : ∀ (z0 : Int32) (z1 : Int32) (z2 : Int32) (z3 : Int32) (z4 : Int32) (z5 : Int32) (z6 : Int32) (z7 : Int32) (z8 : xS), Rrr S0 z8 → KFo Rrr S0 (k18 z0 z1 z2 z3 z4 z5 z6 z7 z8)) (x1 : Int32) (x2 : Int32) (x4 : Int32) (x5 : Int32) (x6 : Int32) (x7 : Int32) (x8 : Int32) (x9 : Int32) (S : xS) (hS : Rrr S0 S) : KFo Rrr S0 (f_X12_eval_413 N k18 x1 x2 x4 x5 x6 x7 x8 x9 S) := by
  unfold f_X12_eval_413
  exact (K_xin (fun _ => (K_xcI (fr_f_X12_nextOf _ _ _ _ hS) (fun v128 S127 hS127 => (K_ite (K_xin (fun _ => (fr_f_X12_eval_502 _ _ hk18 _ _ _ _ _ _ _ _ _ (Rrr_I hS127 (by omega)))) K_non) (fr_f_X12_eval_502 _ _ hk18 _ _ _ _ _ _ _ _ _ hS127))))) K_non)
theorem fr_f_X12_eval_333 {S0 : xS} (N : Nat) (k18 : Int32 → Int32 → Int32 → Int32 → Int32 → Int32 → Int32 → Int32 → xS → Option xr) (hk18 : ∀ (z0 : Int32) (z1 : Int32) (z2 : Int32) (z3 : Int32) (z4 : Int32) (z5 : Int32) (z6 : Int32) (z7 : Int32) (z8 : xS), Rrr S0 z8 → KFo Rrr S0 (k18 z0 z1 z2 z3 z4 z5 z6 z7 z8)) (x1 : Int32) (x2 : Int32) (x4 : Int32) (x6 : Int32) (x7 : Int32) (x8 : Int32) (x9 : Int32) (s0 : Int32) (S : xS) (hS : Rrr S0 S) : KFo Rrr S0 (f_X12_eval_333 N k18 x1 x2 x4 x6 x7 x8 x9 s0 S) := by
  unfold f_X12_eval_333
  exact (K_ite (K_xin (fun _ => (fr_f_X12_eval_502 _ _ hk18 _ _ _ _ _ _ _ _ _ (Rrr_I hS (by omega)))) K_non) (fr_f_X12_eval_502 _ _ hk18 _ _ _ _ _ _ _ _ _ hS))
theorem fr_f_X12_eval_206 {S0 : xS} (N : Nat) (k18 : Int32 → Int32 → Int32 → Int32 → Int32 → Int32 → Int32 → Int32 → xS → Option xr) (hk18 : ∀ (z0 : Int32) (z1 : Int32) (z2 : Int32) (z3 : Int32) (z4 : Int32) (z5 : Int32) (z6 : Int32) (z7 : Int32) (z8 : xS), Rrr S0 z8 → KFo Rrr S0 (k18 z0 z1 z2 z3 z4 z5 z6 z7 z8)) (x1 : Int32) (x2 : Int32) (x4 : Int32) (x5 : Int32) (x6 : Int32) (x7 : Int32) (x8 : Int32) (x9 : Int32) (s0 : Int32) (s1 : Int32) (S : xS) (hS : Rrr S0 S) : KFo Rrr S0 (f_X12_eval_206 N k18 x1 x2 x4 x5 x6 x7 x8 x9 s0 s1 S) := by
  unfold f_X12_eval_206
  exact (K_xin (fun _ => (fr_f_X12_eval_502 _ _ hk18 _ _ _ _ _ _ _ _ _ (Rrr_I hS (by omega)))) K_non)
theorem fr_f_X12_eval_18 {S0 : xS} (N : Nat) : ∀ (n : Nat) (x1 : Int32) (x2 : Int32) (x4 : Int32) (x5 : Int32) (x6 : Int32) (x7 : Int32) (x8 : Int32) (x9 : Int32) (S : xS), Rrr S0 S → KFo Rrr S0 (f_X12_eval_18 N n x1 x2 x4 x5 x6 x7 x8 x9 S) := by
  intro n
  induction n with
  | zero => intro x1 x2 x4 x5 x6 x7 x8 x9 S _; exact K_non
  | succ n ih =>
    intro x1 x2 x4 x5 x6 x7 x8 x9 S hS
    rw [f_X12_eval_18.eq_2]
    exact (K_ite (K_xin (fun _ => (K_ret hS)) K_non) (K_xin (fun _ => (K_ite (K_xin (fun _ => (K_xin (fun _ => (fr_f_X12_eval_502 _ _ (fun z0 z1 z2 z3 z4 z5 z6 z7 z8 hh => ih z0 z1 z2 z3 z4 z5 z6 z7 z8 hh) _ _ _ _ _ _ _ _ _ (Rrr_I hS (by omega)))) K_non)) K_non) (K_ite (K_xin (fun _ => (K_xin (fun _ => (K_xin (fun _ => (fr_f_X12_eval_502 _ _ (fun z0 z1 z2 z3 z4 z5 z6 z7 z8 hh => ih z0 z1 z2 z3 z4 z5 z6 z7 z8 hh) _ _ _ _ _ _ _ _ _ (Rrr_I hS (by omega)))) K_non)) K_non)) K_non) (K_ite (K_xin (fun _ => (K_xcI (fr_f_X12_valueOf _ _ _ _ hS) (fun v147 S146 hS146 => (K_xin (fun _ => (fr_f_X12_eval_502 _ _ (fun z0 z1 z2 z3 z4 z5 z6 z7 z8 hh => ih z0 z1 z2 z3 z4 z5 z6 z7 z8 hh) _ _ _ _ _ _ _ _ _ (Rrr_I hS146 (by omega)))) K_non)))) K_non) (K_ite (K_xin (fun _ => (K_xcI (fr_f_X12_cursorThere _ _ _ hS) (fun v152 S151 hS151 => (K_ite (fr_f_X12_eval_206 _ _ (fun z0 z1 z2 z3 z4 z5 z6 z7 z8 hh => ih z0 z1 z2 z3 z4 z5 z6 z7 z8 hh) _ _ _ _ _ _ _ _ _ _ _ hS151) (K_xin (fun _ => (K_xin (fun _ => (K_xin (fun _ => (K_xcI (fr_f_X12_valueOf _ _ _ _ hS151) (fun v158 S157 hS157 => (fr_f_X12_eval_206 _ _ (fun z0 z1 z2 z3 z4 z5 z6 z7 z8 hh => ih z0 z1 z2 z3 z4 z5 z6 z7 z8 hh) _ _ _ _ _ _ _ _ _ _ _ hS157)))) K_non)) K_non)) K_non))))) K_non) (K_ite (fr_f_X12_eval_229 _ _ (fun z0 z1 z2 z3 z4 z5 z6 z7 z8 hh => ih z0 z1 z2 z3 z4 z5 z6 z7 z8 hh) _ _ _ _ _ _ _ _ _ _ hS) (K_ite (fr_f_X12_eval_229 _ _ (fun z0 z1 z2 z3 z4 z5 z6 z7 z8 hh => ih z0 z1 z2 z3 z4 z5 z6 z7 z8 hh) _ _ _ _ _ _ _ _ _ _ hS) (K_ite (K_xin (fun _ => (K_xcI (fr_f_X12_nextOf _ _ _ _ hS) (fun v164 S163 hS163 => (K_ite (K_xcI (fr_f_X12_endOf _ _ _ hS163) (fun v167 S166 hS166 => (fr_f_X12_eval_333 _ _ (fun z0 z1 z2 z3 z4 z5 z6 z7 z8 hh => ih z0 z1 z2 z3 z4 z5 z6 z7 z8 hh) _ _ _ _ _ _ _ _ _ hS166))) (fr_f_X12_eval_333 _ _ (fun z0 z1 z2 z3 z4 z5 z6 z7 z8 hh => ih z0 z1 z2 z3 z4 z5 z6 z7 z8 hh) _ _ _ _ _ _ _ _ _ hS163))))) K_non) (K_ite (K_xin (fun _ => (K_ite (fr_f_X12_eval_413 _ _ (fun z0 z1 z2 z3 z4 z5 z6 z7 z8 hh => ih z0 z1 z2 z3 z4 z5 z6 z7 z8 hh) _ _ _ _ _ _ _ _ _ hS) (K_xin (fun _ => (K_xin (fun _ => (K_xcI (fr_f_X12_valueOf _ _ _ _ hS) (fun v174 S173 hS173 => (K_xcI (fr_f_X12_aggregated _ _ _ _ _ _ hS173) (fun v176 S175 hS175 => (fr_f_X12_eval_413 _ _ (fun z0 z1 z2 z3 z4 z5 z6 z7 z8 hh => ih z0 z1 z2 z3 z4 z5 z6 z7 z8 hh) _ _ _ _ _ _ _ _ _ hS175)))))) K_non)) K_non))) K_non) (K_xin (fun _ => (K_xin (fun _ => (K_xcI (fr_f_X12_operate _ _ _ _ _ hS) (fun v180 S179 hS179 => (fr_f_X12_eval_502 _ _ (fun z0 z1 z2 z3 z4 z5 z6 z7 z8 hh => ih z0 z1 z2 z3 z4 z5 z6 z7 z8 hh) _ _ _ _ _ _ _ _ _ (Rrr_I hS179 (by omega)))))) K_non)) K_non)))))))))) K_non))
theorem fr_f_X12_eval {S0 : xS} (N : Nat) (x1 : Int32) (x2 : Int32) (x3 : Int32) (S : xS) (hS : Rrr S0 S) : KFo Rrr S0 (f_X12_eval N x1 x2 x3 S) := by
  unfold f_X12_eval
  exact (fr_f_X12_eval_18 _ _ _ _ _ _ _ _ _ _ _ hS)
theorem fr_f_X12_choose_56 {S0 : xS} (N : Nat) (k2 : Int32 → Int32 → Int32 → xS → Option xr) (hk2 : ∀ (z0 : Int32) (z1 : Int32) (z2 : Int32) (z3 : xS), Rrr S0 z3 → KFo Rrr S0 (k2 z0 z1 z2 z3)) (x1 : Int32) (x2 : Int32) (x3 : Int32) (s0 : Int32) (s1 : Int32) (S : xS) (hS : Rrr S0 S) : KFo Rrr S0 (f_X12_choose_56 N k2 x1 x2 x3 s0 s1 S) := by
  unfold f_X12_choose_56
  exact (K_xin (fun _ => (K_ite (hk2 _ _ _ _ (Rrr_I hS (by omega))) K_non)) K_non)
theorem fr_f_X12_choose_55 {S0 : xS} (N : Nat) (k2 : Int32 → Int32 → Int32 → xS → Option xr) (hk2 : ∀ (z0 : Int32) (z1 : Int32) (z2 : Int32) (z3 : xS), Rrr S0 z3 → KFo Rrr S0 (k2 z0 z1 z2 z3)) (x1 : Int32) (x2 : Int32) (x3 : Int32) (s0 : Int32) (S : xS) (hS : Rrr S0 S) : KFo Rrr S0 (f_X12_choose_55 N k2 x1 x2 x3 s0 S) := by
  unfold f_X12_choose_55
  exact (fr_f_X12_choose_56 _ _ hk2 _ _ _ _ _ _ hS)
theorem fr_f_X12_choose_51 {S0 : xS} (N : Nat) (k2 : Int32 → Int32 → Int32 → xS → Option xr) (hk2 : ∀ (z0 : Int32) (z1 : Int32) (z2 : Int32) (z3 : xS), Rrr S0 z3 → KFo Rrr S0 (k2 z0 z1 z2 z3)) (x1 : Int32) (x2 : Int32) (x3 : Int32) (s0 : Int32) (S : xS) (hS : Rrr S0 S) : KFo Rrr S0 (f_X12_choose_51 N k2 x1 x2 x3 s0 S) := by
  unfold f_X12_choose_51
  exact (fr_f_X12_choose_56 _ _ hk2 _ _ _ _ _ _ hS)
theorem fr_f_X12_choose_2 {S0 : xS} (N : Nat) : ∀ (n : Nat) (x1 : Int32) (x2 : Int32) (x3 : Int32) (S : xS), Rrr S0 S → KFo Rrr S0 (f_X12_choose_2 N n x1 x2 x3 S) := by
  intro n
  induction n with
  | zero => intro x1 x2 x3 S _; exact K_non
  | succ n ih =>
    intro x1 x2 x3 S hS
    rw [f_X12_choose_2.eq_2]
    exact (K_ite (K_ret hS) (K_xin (fun _ => (K_ite (K_xin (fun _ => (K_ite (fr_f_X12_choose_51 _ _ (fun z0 z1 z2 z3 hh => ih z0 z1 z2 z3 hh) _ _ _ _ _ hS) (K_xcI (fr_f_X12_eval _ _ _ _ _ hS) (fun v29 S28 hS28 => (K_ite (fr_f_X12_choose_55 _ _ (fun z0 z1 z2 z3 hh => ih z0 z1 z2 z3 hh) _ _ _ _ _ hS28) (fr_f_X12_choose_51 _ _ (fun z0 z1 z2 z3 hh => ih z0 z1 z2 z3 hh) _ _ _ _ _ hS28)))))) K_non) (fr_f_X12_choose_55 _ _ (fun z0 z1 z2 z3 hh => ih z0 z1 z2 z3 hh) _ _ _ _ _ hS))) K_non))
theorem fr_f_X12_choose {S0 : xS} (N : Nat) (x1 : Int32) (x2 : Int32) (S : xS) (hS : Rrr S0 S) : KFo Rrr S0 (f_X12_choose N x1 x2 S) := by
  unfold f_X12_choose
  exact (fr_f_X12_choose_2 _ _ _ _ _ _ hS)
theorem fr_f_X12_insert_117 {S0 : xS} (N : Nat) : ∀ (n : Nat) (x1 : Int32) (x2 : Int32) (x3 : Int32) (x4 : Int32) (x5 : Int32) (S : xS), Rrr S0 S → KFo Rrr S0 (f_X12_insert_117 N n x1 x2 x3 x4 x5 S) := by
  intro n
  induction n with
  | zero => intro x1 x2 x3 x4 x5 S _; exact K_non
  | succ n ih =>
    intro x1 x2 x3 x4 x5 S hS
    rw [f_X12_insert_117.eq_2]
    exact (K_ite (K_ret hS) (K_xin (fun _ => (K_xin (fun _ => (K_xcI (fr_f_X12_cut _ _ _ _ _ hS) (fun v35 S34 hS34 => (K_xin (fun _ => (ih _ _ _ _ _ _ (Rrr_I hS34 (by omega)))) K_non)))) K_non)) K_non))
theorem fr_f_X12_insert_87 {S0 : xS} (N : Nat) : ∀ (n : Nat) (x1 : Int32) (x2 : Int32) (x3 : Int32) (x4 : Int32) (x5 : Int32) (S : xS), Rrr S0 S → KFo Rrr S0 (f_X12_insert_87 N n x1 x2 x3 x4 x5 S) := by
  intro n
  induction n with
  | zero => intro x1 x2 x3 x4 x5 S _; exact K_non
  | succ n ih =>
    intro x1 x2 x3 x4 x5 S hS
    rw [f_X12_insert_87.eq_2]
    exact (K_ite (fr_f_X12_insert_117 _ _ _ _ _ _ _ _ hS) (K_xin (fun _ => (ih _ _ _ _ _ _ (Rrr_I hS (by omega)))) K_non))
theorem fr_f_X12_insert_44 {S0 : xS} (N : Nat) (x1 : Int32) (x2 : Int32) (x3 : Int32) (x4 : Int32) (S : xS) (hS : Rrr S0 S) : KFo Rrr S0 (f_X12_insert_44 N x1 x2 x3 x4 S) := by
  unfold f_X12_insert_44
  exact (K_ite (K_ret hS) (K_xin (fun _ => (fr_f_X12_insert_87 _ _ _ _ _ _ _ _ (Rrr_I (Rrr_I (Rrr_I hS (by omega)) (by omega)) (by omega)))) K_non))
theorem fr_f_X12_insert_21 {S0 : xS} (N : Nat) : ∀ (n : Nat) (x1 : Int32) (x2 : Int32) (x3 : Int32) (x4 : Int32) (S : xS), Rrr S0 S → KFo Rrr S0 (f_X12_insert_21 N n x1 x2 x3 x4 S) := by
  intro n
  induction n with
  | zero => intro x1 x2 x3 x4 S _; exact K_non
  | succ n ih =>
    intro x1 x2 x3 x4 S hS
    rw [f_X12_insert_21.eq_2]
    exact (K_ite (fr_f_X12_insert_44 _ _ _ _ _ _ hS) (K_xin (fun _ => (K_ite (fr_f_X12_insert_44 _ _ _ _ _ _ hS) (ih _ _ _ _ _ hS))) K_non))
theorem fr_f_X12_insert {S0 : xS} (N : Nat) (x1 : Int32) (S : xS) (hS : Rrr S0 S) : KFo Rrr S0 (f_X12_insert N x1 S) := by
  unfold f_X12_insert
  exact (K_xin (fun _ => (K_xin (fun _ => (fr_f_X12_insert_21 _ _ _ _ _ _ _ hS)) K_non)) K_non)
theorem fr_f_X12_setAll_230 {S0 : xS} (N : Nat) : ∀ (n : Nat) (x5 : Int32) (x6 : Int32) (S : xS), Rrr S0 S → KFo Rrr S0 (f_X12_setAll_230 N n x5 x6 S) := by
  intro n
  induction n with
  | zero => intro x5 x6 S _; exact K_non
  | succ n ih =>
    intro x5 x6 S hS
    rw [f_X12_setAll_230.eq_2]
    exact (K_ite (K_ret hS) (K_xin (fun _ => (ih _ _ _ (Rrr_I hS (by omega)))) K_non))
theorem fr_f_X12_setAll_221 {S0 : xS} (N : Nat) (k76 : Int32 → Int32 → Int32 → Int32 → Int32 → xS → Option xr) (hk76 : ∀ (z0 : Int32) (z1 : Int32) (z2 : Int32) (z3 : Int32) (z4 : Int32) (z5 : xS), Rrr S0 z5 → KFo Rrr S0 (k76 z0 z1 z2 z3 z4 z5)) (x2 : Int32) (x3 : Int32) (x4 : Int32) (x5 : Int32) (x6 : Int32) (S : xS) (hS : Rrr S0 S) : KFo Rrr S0 (f_X12_setAll_221 N k76 x2 x3 x4 x5 x6 S) := by
  unfold f_X12_setAll_221
  exact (hk76 _ _ _ _ _ _ hS)
theorem fr_f_X12_setAll_133 {S0 : xS} (N : Nat) (k76 : Int32 → Int32 → Int32 → Int32 → Int32 → xS → Option xr) (hk76 : ∀ (z0 : Int32) (z1 : Int32) (z2 : Int32) (z3 : Int32) (z4 : Int32) (z5 : xS), Rrr S0 z5 → KFo Rrr S0 (k76 z0 z1 z2 z3 z4 z5)) : ∀ (n : Nat) (x2 : Int32) (x3 : Int32) (x4 : Int32) (x5 : Int32) (x6 : Int32) (x7 : Int32) (x8 : Int32) (S : xS), Rrr S0 S → KFo Rrr S0 (f_X12_setAll_133 N k76 n x2 x3 x4 x5 x6 x7 x8 S) := by
  intro n
  induction n with
  | zero => intro x2 x3 x4 x5 x6 x7 x8 S _; exact K_non
  | succ n ih =>
    intro x2 x3 x4 x5 x6 x7 x8 S hS
    rw [f_X12_setAll_133.eq_2]
    exact (K_ite (fr_f_X12_setAll_221 _ _ hk76 _ _ _ _ _ _ hS) (K_xin (fun _ => (K_ite (fr_f_X12_setAll_221 _ _ hk76 _ _ _ _ _ _ hS) (K_xin (fun _ => (K_xin (fun _ => (K_xcI (fr_f_X12_eval _ _ _ _ _ hS) (fun v53 S52 hS52 => (K_xcI (fr_f_X12_cut _ _ _ _ _ hS52) (fun v55 S54 hS54 => (K_xin (fun _ => (ih _ _ _ _ _ _ _ _ (Rrr_I hS54 (by omega)))) K_non)))))) K_non)) K_non))) K_non))
theorem fr_f_X12_setAll_91 {S0 : xS} (N : Nat) (k76 : Int32 → Int32 → Int32 → Int32 → Int32 → xS → Option xr) (hk76 : ∀ (z0 : Int32) (z1 : Int32) (z2 : Int32) (z3 : Int32) (z4 : Int32) (z5 : xS), Rrr S0 z5 → KFo Rrr S0 (k76 z0 z1 z2 z3 z4 z5)) : ∀ (n : Nat) (x2 : Int32) (x3 : Int32) (x4 : Int32) (x5 : Int32) (x6 : Int32) (x7 : Int32) (x8 : Int32) (S : xS), Rrr S0 S → KFo Rrr S0 (f_X12_setAll_91 N k76 n x2 x3 x4 x5 x6 x7 x8 S) := by
  intro n
  induction n with
  | zero => intro x2 x3 x4 x5 x6 x7 x8 S _; exact K_non
  | succ n ih =>
    intro x2 x3 x4 x5 x6 x7 x8 S hS
    rw [f_X12_setAll_91.eq_2]
    exact (K_ite (fr_f_X12_setAll_133 _ _ hk76 _ _ _ _ _ _ _ _ _ hS) (K_xin (fun _ => (ih _ _ _ _ _ _ _ _ (Rrr_I hS (by omega)))) K_non))
theorem fr_f_X12_setAll_76 {S0 : xS} (N : Nat) : ∀ (n : Nat) (x2 : Int32) (x3 : Int32) (x4 : Int32) (x5 : Int32) (x6 : Int32) (S : xS), Rrr S0 S → KFo Rrr S0 (f_X12_setAll_76 N n x2 x3 x4 x5 x6 S) := by
  intro n
  induction n with
  | zero => intro x2 x3 x4 x5 x6 S _; exact K_non
  | succ n ih =>
    intro x2 x3 x4 x5 x6 S hS
    rw [f_X12_setAll_76.eq_2]
    exact (K_ite (fr_f_X12_setAll_230 _ _ _ _ _ hS) (fr_f_X12_setAll_91 _ _ (fun z0 z1 z2 z3 z4 z5 hh => ih z0 z1 z2 z3 z4 z5 hh) _ _ _ _ _ _ _ _ _ hS))
theorem fr_f_X12_setAll_44 {S0 : xS} (N : Nat) : ∀ (n : Nat) (x2 : Int32) (x3 : Int32) (x4 : Int32) (x5 : Int32) (x6 : Int32) (S : xS), Rrr S0 S → KFo Rrr S0 (f_X12_setAll_44 N n x2 x3 x4 x5 x6 S) := by
  intro n
  induction n with
  | zero => intro x2 x3 x4 x5 x6 S _; exact K_non
  | succ n ih =>
    intro x2 x3 x4 x5 x6 S hS
    rw [f_X12_setAll_44.eq_2]
    exact (K_ite (fr_f_X12_setAll_76 _ _ _ _ _ _ _ _ hS) (K_xin (fun _ => (ih _ _ _ _ _ _ hS)) K_non))
theorem fr_f_X12_setAll {S0 : xS} (N : Nat) (x1 : Int32) (S : xS) (hS : Rrr S0 S) : KFo Rrr S0 (f_X12_setAll N x1 S) := by
  unfold f_X12_setAll
  exact (K_xin (fun _ => (K_xcV (fr_f_X12_choose _ _ _ _ hS) (fun S63 hS63 => (K_xin (fun _ => (K_xin (fun _ => (fr_f_X12_setAll_44 _ _ _ _ _ _ _ _ hS63)) K_non)) K_non)))) K_non)
theorem fr_f_X12_beginEach_198 {S0 : xS} (N : Nat) (k39 : Int32 → Int32 → Int32 → Int32 → xS → Option xr) (hk39 : ∀ (z0 : Int32) (z1 : Int32) (z2 : Int32) (z3 : Int32) (z4 : xS), Rrr S0 z4 → KFo Rrr S0 (k39 z0 z1 z2 z3 z4)) (x2 : Int32) (x3 : Int32) (x4 : Int32) (x5 : Int32) (S : xS) (hS : Rrr S0 S) : KFo Rrr S0 (f_X12_beginEach_198 N k39 x2 x3 x4 x5 S) := by
  unfold f_X12_beginEach_198
  exact (hk39 _ _ _ _ _ hS)
theorem fr_f_X12_beginEach_162 {S0 : xS} (N : Nat) (k39 : Int32 → Int32 → Int32 → Int32 → xS → Option xr) (hk39 : ∀ (z0 : Int32) (z1 : Int32) (z2 : Int32) (z3 : Int32) (z4 : xS), Rrr S0 z4 → KFo Rrr S0 (k39 z0 z1 z2 z3 z4)) (x2 : Int32) (x3 : Int32) (x4 : Int32) (x5 : Int32) (x6 : Int32) (S : xS) (hS : Rrr S0 S) : KFo Rrr S0 (f_X12_beginEach_162 N k39 x2 x3 x4 x5 x6 S) := by
  unfold f_X12_beginEach_162
  exact (K_xin (fun _ => (K_xin (fun _ => (fr_f_X12_beginEach_198 _ _ hk39 _ _ _ _ _ (Rrr_I (Rrr_I hS (by omega)) (by omega)))) K_non)) K_non)
theorem fr_f_X12_beginEach_60 {S0 : xS} (N : Nat) (k39 : Int32 → Int32 → Int32 → Int32 → xS → Option xr) (hk39 : ∀ (z0 : Int32) (z1 : Int32) (z2 : Int32) (z3 : Int32) (z4 : xS), Rrr S0 z4 → KFo Rrr S0 (k39 z0 z1 z2 z3 z4)) : ∀ (n : Nat) (x2 : Int32) (x3 : Int32) (x4 : Int32) (x5 : Int32) (x6 : Int32) (S : xS), Rrr S0 S → KFo Rrr S0 (f_X12_beginEach_60 N k39 n x2 x3 x4 x5 x6 S) := by
  intro n
  induction n with
  | zero => intro x2 x3 x4 x5 x6 S _; exact K_non
  | succ n ih =>
    intro x2 x3 x4 x5 x6 S hS
    rw [f_X12_beginEach_60.eq_2]
    exact (K_ite (fr_f_X12_beginEach_162 _ _ hk39 _ _ _ _ _ _ hS) (K_xin (fun _ => (K_xin (fun _ => (K_xin (fun _ => (K_ite (fr_f_X12_beginEach_162 _ _ hk39 _ _ _ _ _ _ hS) (K_xin (fun _ => (ih _ _ _ _ _ _ (Rrr_I (Rrr_I hS (by omega)) (by omega)))) K_non))) K_non)) K_non)) K_non))
theorem fr_f_X12_beginEach_39 {S0 : xS} (N : Nat) : ∀ (n : Nat) (x2 : Int32) (x3 : Int32) (x4 : Int32) (x5 : Int32) (S : xS), Rrr S0 S → KFo Rrr S0 (f_X12_beginEach_39 N n x2 x3 x4 x5 S) := by
  intro n
  induction n with
  | zero => intro x2 x3 x4 x5 S _; exact K_non
  | succ n ih =>
    intro x2 x3 x4 x5 S hS
    rw [f_X12_beginEach_39.eq_2]
    exact (K_ite (K_xin (fun _ => (K_ret (Rrr_I (Rrr_I hS (by omega)) (by omega)))) K_non) (K_xin (fun _ => (K_ite (fr_f_X12_beginEach_198 _ _ (fun z0 z1 z2 z3 z4 hh => ih z0 z1 z2 z3 z4 hh) _ _ _ _ _ hS) (fr_f_X12_beginEach_60 _ _ (fun z0 z1 z2 z3 z4 hh => ih z0 z1 z2 z3 z4 hh) _ _ _ _ _ _ _ hS))) K_non))
theorem fr_f_X12_beginEach {S0 : xS} (N : Nat) (x1 : Int32) (S : xS) (hS : Rrr S0 S) : KFo Rrr S0 (f_X12_beginEach N x1 S) := by
  unfold f_X12_beginEach
  exact (K_xin (fun _ => (K_xin (fun _ => (K_xin (fun _ => (K_xcV (fr_f_X12_choose _ _ _ _ hS) (fun S50 hS50 => (fr_f_X12_beginEach_39 _ _ _ _ _ _ _ hS50)))) K_non)) K_non)) K_non)
theorem fr_f_X12_nextEach_74 {S0 : xS} (N : Nat) (s0 : Int32) (S : xS) (hS : Rrr S0 S) : KFo Rrr S0 (f_X12_nextEach_74 N s0 S) := by
  unfold f_X12_nextEach_74
  exact (K_ite (K_ret hS) K_non)
theorem fr_f_X12_nextEach_54 {S0 : xS} (N : Nat) (x1 : Int32) (S : xS) (hS : Rrr S0 S) : KFo Rrr S0 (f_X12_nextEach_54 N x1 S) := by
  unfold f_X12_nextEach_54
  exact (K_xin (fun _ => (K_ite (fr_f_X12_nextEach_74 _ _ _ hS) (fr_f_X12_nextEach_74 _ _ _ hS))) K_non)
theorem fr_f_X12_nextEach_14 {S0 : xS} (N : Nat) : ∀ (n : Nat) (x1 : Int32) (S : xS), Rrr S0 S → KFo Rrr S0 (f_X12_nextEach_14 N n x1 S) := by
  intro n
  induction n with
  | zero => intro x1 S _; exact K_non
  | succ n ih =>
    intro x1 S hS
    rw [f_X12_nextEach_14.eq_2]
    exact (K_xin (fun _ => (K_ite (fr_f_X12_nextEach_54 _ _ _ hS) (K_xcI (fr_f_X12_cursorThere _ _ _ hS) (fun v25 S24 hS24 => (K_ite (ih _ _ (Rrr_I hS24 (by omega))) (fr_f_X12_nextEach_54 _ _ _ hS24)))))) K_non)
theorem fr_f_X12_nextEach {S0 : xS} (N : Nat) (x1 : Int32) (S : xS) (hS : Rrr S0 S) : KFo Rrr S0 (f_X12_nextEach N x1 S) := by
  unfold f_X12_nextEach
  exact (K_xin (fun _ => (fr_f_X12_nextEach_14 _ _ _ _ (Rrr_I hS (by omega)))) K_non)
theorem fr_f_X12_pay {S0 : xS} (N : Nat) (S : xS) (hS : Rrr S0 S) : KFo Rrr S0 (f_X12_pay N S) := by
  unfold f_X12_pay
  exact (K_ite (K_ret hS) (K_ret (Rrr_I hS (by omega))))
theorem fr_f_X12_put_89 {S0 : xS} (N : Nat) (S : xS) (hS : Rrr S0 S) : KFo Rrr S0 (f_X12_put_89 N S) := by
  unfold f_X12_put_89
  exact (K_ret hS)
theorem fr_f_X12_put {S0 : xS} (N : Nat) (x1 : Int32) (S : xS) (hS : Rrr S0 S) : KFo Rrr S0 (f_X12_put N x1 S) := by
  unfold f_X12_put
  exact (K_xin (fun _ => (K_xcI (fr_f_X12_cursorThere _ _ _ (Rrr_I hS (by omega))) (fun v27 S26 hS26 => (K_ite (fr_f_X12_put_89 _ _ hS26) (K_xin (fun _ => (K_xin (fun _ => (K_xin (fun _ => (K_xin (fun _ => (K_xin (fun _ => (K_xcI (fr_f_X12_cut _ _ _ _ _ hS26) (fun v35 S34 hS34 => (K_xin (fun _ => (fr_f_X12_put_89 _ _ (Rrr_I hS34 (by omega)))) K_non)))) K_non)) K_non)) K_non)) K_non)) K_non))))) K_non)
theorem fr_f_X12_step_82 {S0 : xS} (N : Nat) (s0 : Int32) (S : xS) (hS : Rrr S0 S) : KFo Rrr S0 (f_X12_step_82 N s0 S) := by
  unfold f_X12_step_82
  exact (K_ret hS)
theorem fr_f_X12_step_194 {S0 : xS} (N : Nat) (s0 : Int32) (S : xS) (hS : Rrr S0 S) : KFo Rrr S0 (f_X12_step_194 N s0 S) := by
  unfold f_X12_step_194
  exact (K_ret hS)
theorem fr_f_X12_step_234 {S0 : xS} (N : Nat) (k212 : Int32 → Int32 → xS → Option xr) (hk212 : ∀ (z0 : Int32) (z1 : Int32) (z2 : xS), Rrr S0 z2 → KFo Rrr S0 (k212 z0 z1 z2)) (x1 : Int32) (x2 : Int32) (S : xS) (hS : Rrr S0 S) : KFo Rrr S0 (f_X12_step_234 N k212 x1 x2 S) := by
  unfold f_X12_step_234
  exact (hk212 _ _ _ hS)
theorem fr_f_X12_step_212 {S0 : xS} (N : Nat) : ∀ (n : Nat) (x1 : Int32) (x2 : Int32) (S : xS), Rrr S0 S → KFo Rrr S0 (f_X12_step_212 N n x1 x2 S) := by
  intro n
  induction n with
  | zero => intro x1 x2 S _; exact K_non
  | succ n ih =>
    intro x1 x2 S hS
    rw [f_X12_step_212.eq_2]
    exact (K_ite (K_xin (fun _ => (K_ret hS)) K_non) (K_xin (fun _ => (K_ite (fr_f_X12_step_234 _ _ (fun z0 z1 z2 hh => ih z0 z1 z2 hh) _ _ _ hS) (fr_f_X12_step_234 _ _ (fun z0 z1 z2 hh => ih z0 z1 z2 hh) _ _ _ (Rrr_I hS (by omega))))) K_non))
theorem fr_f_X12_step_317 {S0 : xS} (N : Nat) (s0 : Int32) (S : xS) (hS : Rrr S0 S) : KFo Rrr S0 (f_X12_step_317 N s0 S) := by
  unfold f_X12_step_317
  exact (K_ret hS)
theorem fr_f_X12_step_378 {S0 : xS} (N : Nat) (x1 : Int32) (S : xS) (hS : Rrr S0 S) : KFo Rrr S0 (f_X12_step_378 N x1 S) := by
  unfold f_X12_step_378
  exact (K_ret hS)
theorem fr_f_X12_step_418 {S0 : xS} (N : Nat) (s0 : Int32) (S : xS) (hS : Rrr S0 S) : KFo Rrr S0 (f_X12_step_418 N s0 S) := by
  unfold f_X12_step_418
  exact (K_ret hS)
theorem fr_f_X12_step {S0 : xS} (N : Nat) (x1 : Int32) (S : xS) (hS : Rrr S0 S) : KFo Rrr S0 (f_X12_step N x1 S) := by
  unfold f_X12_step
  exact (K_xin (fun _ => (K_ite (K_xcI (fr_f_X12_pay _ _ hS) (fun v132 S131 hS131 => (K_ite (fr_f_X12_step_82 _ _ _ hS131) (fr_f_X12_step_82 _ _ _ hS131)))) (K_ite (K_xin (fun _ => (K_xin (fun _ => (K_xin (fun _ => (K_ret (Rrr_I (Rrr_I hS (by omega)) (by omega)))) K_non)) K_non)) K_non) (K_ite (K_xin (fun _ => (K_xin (fun _ => (K_ret (Rrr_I (Rrr_I (Rrr_I hS (by omega)) (by omega)) (by omega)))) K_non)) K_non) (K_ite (K_xcI (fr_f_X12_insert _ _ _ (Rrr_I hS (by omega))) (fun v143 S142 hS142 => (K_ite (fr_f_X12_step_194 _ _ _ hS142) (K_xin (fun _ => (fr_f_X12_step_194 _ _ _ hS142)) K_non)))) (K_ite (K_xin (fun _ => (K_xcV (fr_f_X12_choose _ _ _ _ hS) (fun S148 hS148 => (fr_f_X12_step_212 _ _ _ _ _ hS148)))) K_non) (K_ite (K_xcI (fr_f_X12_setAll _ _ _ hS) (fun v152 S151 hS151 => (K_ret hS151))) (K_ite (K_xcV (fr_f_X12_beginEach _ _ _ hS) (fun S154 hS154 => (K_xin (fun _ => (K_ret hS154)) K_non))) (K_ite (K_xin (fun _ => (K_xcI (fr_f_X12_nextEach _ _ _ hS) (fun v160 S159 hS159 => (K_ite (K_xin (fun _ => (K_ret hS159)) K_non) (K_xcI (fr_f_X12_pay _ _ hS159) (fun v164 S163 hS163 => (K_ite (fr_f_X12_step_317 _ _ _ hS163) (fr_f_X12_step_317 _ _ _ hS163)))))))) K_non) (K_ite (K_xcV (fr_f_X12_put _ _ _ hS) (fun S167 hS167 => (K_ret hS167))) (K_ite (K_xin (fun _ => (K_xcI (fr_f_X12_cursorThere _ _ _ hS) (fun v172 S171 hS171 => (K_ite (fr_f_X12_step_378 _ _ _ hS171) (K_xin (fun _ => (K_xin (fun _ => (K_xin (fun _ => (fr_f_X12_step_378 _ _ _ (Rrr_I hS171 (by omega)))) K_non)) K_non)) K_non))))) K_non) (K_ite (K_xin (fun _ => (K_ite (K_xin (fun _ => (fr_f_X12_step_418 _ _ _ (Rrr_I hS (by omega)))) K_non) (fr_f_X12_step_418 _ _ _ (Rrr_I hS (by omega))))) K_non) (K_ite (K_xin (fun _ => (K_ret hS)) K_non) (K_xin (fun _ => (K_xcI (fr_f_X12_eval _ _ _ _ _ hS) (fun v185 S184 hS184 => (K_xin (fun _ => (K_ret (Rrr_I (Rrr_I hS184 (by omega)) (by omega)))) K_non)))) K_non)))))))))))))) K_non)
theorem fr_f_X12_run_89 {S0 : xS} (N : Nat) (s0 : Int32) (S : xS) (hS : Rrr S0 S) : KFo Rrr S0 (f_X12_run_89 N s0 S) := by
  unfold f_X12_run_89
  exact (K_ret hS)
theorem fr_f_X12_run_79 {S0 : xS} (N : Nat) (x2 : Int32) (S : xS) (hS : Rrr S0 S) : KFo Rrr S0 (f_X12_run_79 N x2 S) := by
  unfold f_X12_run_79
  exact (K_ite (fr_f_X12_run_89 _ _ _ hS) (fr_f_X12_run_89 _ _ _ hS))
theorem fr_f_X12_run_58 {S0 : xS} (N : Nat) : ∀ (n : Nat) (x2 : Int32) (S : xS), Rrr S0 S → KFo Rrr S0 (f_X12_run_58 N n x2 S) := by
  intro n
  induction n with
  | zero => intro x2 S _; exact K_non
  | succ n ih =>
    intro x2 S hS
    rw [f_X12_run_58.eq_2]
    exact (K_ite (fr_f_X12_run_79 _ _ _ hS) (K_ite (fr_f_X12_run_79 _ _ _ hS) (K_xcI (fr_f_X12_step _ _ _ hS) (fun v23 S22 hS22 => (ih _ _ hS22)))))
theorem fr_f_X12_records_30 {S0 : xS} (N : Nat) (k9 : Int32 → Int32 → xS → Option xr) (hk9 : ∀ (z0 : Int32) (z1 : Int32) (z2 : xS), Rrr S0 z2 → KFo Rrr S0 (k9 z0 z1 z2)) (x2 : Int32) (s0 : Int32) (s1 : Int32) (S : xS) (hS : Rrr S0 S) : KFo Rrr S0 (f_X12_records_30 N k9 x2 s0 s1 S) := by
  unfold f_X12_records_30
  exact (hk9 _ _ _ hS)
theorem fr_f_X12_records_9 {S0 : xS} (N : Nat) : ∀ (n : Nat) (x1 : Int32) (x2 : Int32) (S : xS), Rrr S0 S → KFo Rrr S0 (f_X12_records_9 N n x1 x2 S) := by
  intro n
  induction n with
  | zero => intro x1 x2 S _; exact K_non
  | succ n ih =>
    intro x1 x2 S hS
    rw [f_X12_records_9.eq_2]
    exact (K_ite (K_ret hS) (K_xin (fun _ => (K_ite (fr_f_X12_records_30 _ _ (fun z0 z1 z2 hh => ih z0 z1 z2 hh) _ _ _ _ hS) (fr_f_X12_records_30 _ _ (fun z0 z1 z2 hh => ih z0 z1 z2 hh) _ _ _ _ hS))) K_non))
