/-! frames: cl -/
theorem fr_f_J0_coder_7d493_14 {S0 : xS} (N : Nat) (i : Nat) (s0 : Int32) (S : xS) (hS : Rcl S0 S) : KFo Rcl S0 (f_J0_coder_7d493_14 N i s0 S) := by
  unfold f_J0_coder_7d493_14
  exact (K_ite (K_ret hS) K_non)
theorem fr_f_J0_coder_7d493 {S0 : xS} (N : Nat) (i : Nat) (S : xS) (hS : Rcl S0 S) : KFo Rcl S0 (f_J0_coder_7d493 N i S) := by
  unfold f_J0_coder_7d493
  exact (K_ite (fr_f_J0_coder_7d493_14 _ _ _ _ hS) (K_ite (fr_f_J0_coder_7d493_14 _ _ _ _ hS) K_non))
theorem fr_f_J0_isLatin1_aae02_18 {S0 : xS} (N : Nat) (i : Nat) (s0 : Int32) (S : xS) (hS : Rcl S0 S) : KFo Rcl S0 (f_J0_isLatin1_aae02_18 N i s0 S) := by
  unfold f_J0_isLatin1_aae02_18
  exact (K_ite (K_ret hS) K_non)
theorem fr_f_J0_isLatin1_aae02_17 {S0 : xS} (N : Nat) (i : Nat) (S : xS) (hS : Rcl S0 S) : KFo Rcl S0 (f_J0_isLatin1_aae02_17 N i S) := by
  unfold f_J0_isLatin1_aae02_17
  exact (fr_f_J0_isLatin1_aae02_18 _ _ _ _ hS)
theorem fr_f_J0_isLatin1_aae02 {S0 : xS} (N : Nat) (i : Nat) (S : xS) (hS : Rcl S0 S) : KFo Rcl S0 (f_J0_isLatin1_aae02 N i S) := by
  unfold f_J0_isLatin1_aae02
  exact (K_ite (fr_f_J0_isLatin1_aae02_17 _ _ _ hS) (K_ite (K_ite (fr_f_J0_isLatin1_aae02_18 _ _ _ _ hS) (fr_f_J0_isLatin1_aae02_17 _ _ _ hS)) K_non))
theorem fr_f_J0_length_8abf5 {S0 : xS} (N : Nat) (i : Nat) (S : xS) (hS : Rcl S0 S) : KFo Rcl S0 (f_J0_length_8abf5 N i S) := by
  unfold f_J0_length_8abf5
  exact (K_ite (K_xcI (fr_f_J0_coder_7d493 _ _ _ hS) (fun v6 S5 hS5 => (K_ret hS5))) K_non)
theorem fr_f_J1_canEncode_9a6ad_16 {S0 : xS} (N : Nat) (s0 : Int32) (S : xS) (hS : Rcl S0 S) : KFo Rcl S0 (f_J1_canEncode_9a6ad_16 N s0 S) := by
  unfold f_J1_canEncode_9a6ad_16
  exact (K_ite (K_ret hS) K_non)
theorem fr_f_J1_canEncode_9a6ad_15 {S0 : xS} (N : Nat) (S : xS) (hS : Rcl S0 S) : KFo Rcl S0 (f_J1_canEncode_9a6ad_15 N S) := by
  unfold f_J1_canEncode_9a6ad_15
  exact (fr_f_J1_canEncode_9a6ad_16 _ _ _ hS)
theorem fr_f_J1_canEncode_9a6ad {S0 : xS} (N : Nat) (x0 : Int32) (S : xS) (hS : Rcl S0 S) : KFo Rcl S0 (f_J1_canEncode_9a6ad N x0 S) := by
  unfold f_J1_canEncode_9a6ad
  exact (K_ite (fr_f_J1_canEncode_9a6ad_15 _ _ hS) (K_ite (fr_f_J1_canEncode_9a6ad_15 _ _ hS) (fr_f_J1_canEncode_9a6ad_16 _ _ _ hS)))
theorem fr_f_J9_max_7cf53_10 {S0 : xS} (N : Nat) (s0 : Int32) (S : xS) (hS : Rcl S0 S) : KFo Rcl S0 (f_J9_max_7cf53_10 N s0 S) := by
  unfold f_J9_max_7cf53_10
  exact (K_ret hS)
theorem fr_f_J9_max_7cf53 {S0 : xS} (N : Nat) (x0 : Int32) (x1 : Int32) (S : xS) (hS : Rcl S0 S) : KFo Rcl S0 (f_J9_max_7cf53 N x0 x1 S) := by
  unfold f_J9_max_7cf53
  exact (K_ite (fr_f_J9_max_7cf53_10 _ _ _ hS) (fr_f_J9_max_7cf53_10 _ _ _ hS))
theorem fr_f_J9_min_7cf53_10 {S0 : xS} (N : Nat) (s0 : Int32) (S : xS) (hS : Rcl S0 S) : KFo Rcl S0 (f_J9_min_7cf53_10 N s0 S) := by
  unfold f_J9_min_7cf53_10
  exact (K_ret hS)
theorem fr_f_J9_min_7cf53 {S0 : xS} (N : Nat) (x0 : Int32) (x1 : Int32) (S : xS) (hS : Rcl S0 S) : KFo Rcl S0 (f_J9_min_7cf53 N x0 x1 S) := by
  unfold f_J9_min_7cf53
  exact (K_ite (fr_f_J9_min_7cf53_10 _ _ _ hS) (fr_f_J9_min_7cf53_10 _ _ _ hS))
theorem fr_f_J1_indexOfChar_4cfef_7 {S0 : xS} (N : Nat) (i : Nat) : ∀ (n : Nat) (x3 : Int32) (x4 : Int32) (x5 : Int32) (S : xS), Rcl S0 S → KFo Rcl S0 (f_J1_indexOfChar_4cfef_7 N i n x3 x4 x5 S) := by
  intro n
  induction n with
  | zero => intro x3 x4 x5 S _; exact K_non
  | succ n ih =>
    intro x3 x4 x5 S hS
    rw [f_J1_indexOfChar_4cfef_7.eq_2]
    exact (K_ite (K_ret hS) (K_ite (K_xin (fun _ => (K_ite (K_ret hS) (ih _ _ _ _ hS))) K_non) K_non))
theorem fr_f_J1_indexOfChar_4cfef {S0 : xS} (N : Nat) (i : Nat) (x1 : Int32) (x2 : Int32) (x3 : Int32) (S : xS) (hS : Rcl S0 S) : KFo Rcl S0 (f_J1_indexOfChar_4cfef N i x1 x2 x3 S) := by
  unfold f_J1_indexOfChar_4cfef
  exact (fr_f_J1_indexOfChar_4cfef_7 _ _ _ _ _ _ _ hS)
theorem fr_f_J1_indexOf_4cfef {S0 : xS} (N : Nat) (i : Nat) (x1 : Int32) (x2 : Int32) (x3 : Int32) (S : xS) (hS : Rcl S0 S) : KFo Rcl S0 (f_J1_indexOf_4cfef N i x1 x2 x3 S) := by
  unfold f_J1_indexOf_4cfef
  exact (K_xcI (fr_f_J1_canEncode_9a6ad _ _ _ hS) (fun v13 S12 hS12 => (K_ite (K_ret hS12) (K_xcI (fr_f_J9_max_7cf53 _ _ _ _ hS12) (fun v16 S15 hS15 => (K_ite (K_xcI (fr_f_J9_min_7cf53 _ _ _ _ hS15) (fun v19 S18 hS18 => (K_ite (K_xcI (fr_f_J1_indexOfChar_4cfef _ _ _ _ _ _ hS18) (fun v22 S21 hS21 => (K_ret hS21))) (K_ret hS18)))) K_non))))))
theorem fr_f_J0_indexOf_7cf53_36 {S0 : xS} (N : Nat) (i : Nat) (s0 : Int32) (S : xS) (hS : Rcl S0 S) : KFo Rcl S0 (f_J0_indexOf_7cf53_36 N i s0 S) := by
  unfold f_J0_indexOf_7cf53_36
  exact (K_ret hS)
theorem fr_f_J0_indexOf_7cf53 {S0 : xS} (N : Nat) (i : Nat) (x1 : Int32) (x2 : Int32) (S : xS) (hS : Rcl S0 S) : KFo Rcl S0 (f_J0_indexOf_7cf53 N i x1 x2 S) := by
  unfold f_J0_indexOf_7cf53
  exact (K_ite (K_xcI (fr_f_J0_isLatin1_aae02 _ _ _ hS) (fun v22 S21 hS21 => (K_ite (K_xcI (fr_f_J0_length_8abf5 _ _ _ hS21) (fun v26 S25 hS25 => K_non)) (K_xcI (fr_f_J0_length_8abf5 _ _ _ hS21) (fun v28 S27 hS27 => (K_xcI (fr_f_J1_indexOf_4cfef _ _ _ _ _ _ hS27) (fun v30 S29 hS29 => (fr_f_J0_indexOf_7cf53_36 _ _ _ _ hS29)))))))) K_non)
theorem fr_f_J0_indexOf_0f7a4 {S0 : xS} (N : Nat) (i : Nat) (x1 : Int32) (S : xS) (hS : Rcl S0 S) : KFo Rcl S0 (f_J0_indexOf_0f7a4 N i x1 S) := by
  unfold f_J0_indexOf_0f7a4
  exact (K_ite (K_xcI (fr_f_J0_indexOf_7cf53 _ _ _ _ _ hS) (fun v5 S4 hS4 => (K_ret hS4))) K_non)
theorem fr_f_X9_sort {S0 : xS} (N : Nat) (S : xS) (hS : Rcl S0 S) : KFo Rcl S0 (f_X9_sort N S) := by
  unfold f_X9_sort
  exact (K_xin (fun _ => (K_ret hS)) K_non)
theorem fr_f_X1_rank {S0 : xS} (N : Nat) (x0 : Int32) (S : xS) (hS : Rcl S0 S) : KFo Rcl S0 (f_X1_rank N x0 S) := by
  unfold f_X1_rank
  exact (K_ite (K_ret hS) (K_ite (K_ret hS) (K_ite (K_ret hS) (K_ite (K_ret hS) (K_ite (K_ret hS) (K_ite (K_ret hS) (K_ite (K_ret hS) (K_ret hS))))))))
theorem fr_f_X1_goesOn_48 {S0 : xS} (N : Nat) (s0 : Int32) (S : xS) (hS : Rcl S0 S) : KFo Rcl S0 (f_X1_goesOn_48 N s0 S) := by
  unfold f_X1_goesOn_48
  exact (K_ite (K_ret hS) K_non)
theorem fr_f_X1_goesOn_47 {S0 : xS} (N : Nat) (S : xS) (hS : Rcl S0 S) : KFo Rcl S0 (f_X1_goesOn_47 N S) := by
  unfold f_X1_goesOn_47
  exact (fr_f_X1_goesOn_48 _ _ _ hS)
theorem fr_f_X1_goesOn {S0 : xS} (N : Nat) (S : xS) (hS : Rcl S0 S) : KFo Rcl S0 (f_X1_goesOn N S) := by
  unfold f_X1_goesOn
  exact (K_xcI (fr_f_X9_sort _ _ hS) (fun v21 S20 hS20 => (K_ite (K_ite (fr_f_X1_goesOn_48 _ _ _ hS20) (fr_f_X1_goesOn_48 _ _ _ hS20)) (K_ite (fr_f_X1_goesOn_47 _ _ hS20) (K_xcI (fr_f_X1_rank _ _ _ hS20) (fun v26 S25 hS25 => (K_ite (fr_f_X1_goesOn_47 _ _ hS25) (fr_f_X1_goesOn_48 _ _ _ hS25))))))))
theorem fr_f_X5_addPart {S0 : xS} (N : Nat) (x1 : Int32) (S : xS) (hS : Rcl S0 S) : KFo Rcl S0 (f_X5_addPart N x1 S) := by
  unfold f_X5_addPart
  exact (K_xin (fun _ => (K_ret (Rcl_I (Rcl_I hS (by omega)) (by omega)))) K_non)
theorem fr_f_X1_release_55 {S0 : xS} (N : Nat) (S : xS) (hS : Rcl S0 S) : KFo Rcl S0 (f_X1_release_55 N S) := by
  unfold f_X1_release_55
  exact (K_ret hS)
theorem fr_f_X1_release_0 {S0 : xS} (N : Nat) : ∀ (n : Nat) (x1 : Int32) (S : xS), Rcl S0 S → KFo Rcl S0 (f_X1_release_0 N n x1 S) := by
  intro n
  induction n with
  | zero => intro x1 S _; exact K_non
  | succ n ih =>
    intro x1 S hS
    rw [f_X1_release_0.eq_2]
    exact (K_ite (fr_f_X1_release_55 _ _ hS) (K_xin (fun _ => (K_xcI (fr_f_X1_rank _ _ _ hS) (fun v36 S35 hS35 => (K_ite (fr_f_X1_release_55 _ _ hS35) (K_xin (fun _ => (K_xcR (fr_f_X5_addPart _ _ _ (Rcl_I hS35 (by omega))) (fun v40 S39 hS39 => (ih _ _ hS39)))) K_non))))) K_non))
theorem fr_f_X1_release {S0 : xS} (N : Nat) (x1 : Int32) (S : xS) (hS : Rcl S0 S) : KFo Rcl S0 (f_X1_release N x1 S) := by
  unfold f_X1_release
  exact (K_ite (fr_f_X1_release_55 _ _ hS) (K_xin (fun _ => (K_xcI (fr_f_X1_rank _ _ _ hS) (fun v44 S43 hS43 => (K_ite (fr_f_X1_release_55 _ _ hS43) (K_xin (fun _ => (K_xcR (fr_f_X5_addPart _ _ _ (Rcl_I hS43 (by omega))) (fun v48 S47 hS47 => (fr_f_X1_release_0 _ _ _ _ hS47)))) K_non))))) K_non))
theorem fr_f_X9_take {S0 : xS} (N : Nat) (x1 : Int32) (S : xS) (hS : Rcl S0 S) : KFo Rcl S0 (f_X9_take N x1 S) := by
  unfold f_X9_take
  exact (K_xin (fun _ => (K_ite (K_ret (Rcl_I hS (by omega))) (K_thr hS))) K_non)
theorem fr_f_X7_leave {S0 : xS} (N : Nat) (x1 : Int32) (S : xS) (hS : Rcl S0 S) : KFo Rcl S0 (f_X7_leave N x1 S) := by
  unfold f_X7_leave
  exact (K_xcV (fr_f_X9_take _ _ _ hS) (fun S3 hS3 => (K_ret (Rcl_I hS3 (by omega)))))
theorem fr_f_X1_close_74 {S0 : xS} (N : Nat) (S : xS) (hS : Rcl S0 S) : KFo Rcl S0 (f_X1_close_74 N S) := by
  unfold f_X1_close_74
  exact (K_xcV (fr_f_X7_leave _ _ _ hS) (fun S19 hS19 => (K_ret hS19)))
theorem fr_f_X1_close {S0 : xS} (N : Nat) (S : xS) (hS : Rcl S0 S) : KFo Rcl S0 (f_X1_close N S) := by
  unfold f_X1_close
  exact (K_xcV (fr_f_X1_release _ _ _ hS) (fun S21 hS21 => (K_xin (fun _ => (K_ite (K_xcR (fr_f_X5_addPart _ _ _ (Rcl_I (Rcl_I hS21 (by omega)) (by omega))) (fun v26 S25 hS25 => (K_xin (fun _ => (fr_f_X1_close_74 _ _ (Rcl_I (Rcl_I hS25 (by omega)) (by omega)))) K_non))) (fr_f_X1_close_74 _ _ (Rcl_I (Rcl_I hS21 (by omega)) (by omega))))) K_non)))
theorem fr_f_X1_push {S0 : xS} (N : Nat) (x1 : Int32) (S : xS) (hS : Rcl S0 S) : KFo Rcl S0 (f_X1_push N x1 S) := by
  unfold f_X1_push
  exact (K_xin (fun _ => (K_ret (Rcl_I (Rcl_I hS (by omega)) (by omega)))) K_non)
theorem fr_f_X9_pass_21 {S0 : xS} (N : Nat) (S : xS) (hS : Rcl S0 S) : KFo Rcl S0 (f_X9_pass_21 N S) := by
  unfold f_X9_pass_21
  exact (K_ret hS)
theorem fr_f_X9_pass {S0 : xS} (N : Nat) (S : xS) (hS : Rcl S0 S) : KFo Rcl S0 (f_X9_pass N S) := by
  unfold f_X9_pass
  exact (K_ite (fr_f_X9_pass_21 _ _ hS) (fr_f_X9_pass_21 _ _ (Rcl_I hS (by omega))))
theorem fr_f_X1_join_67 {S0 : xS} (N : Nat) (x1 : Int32) (S : xS) (hS : Rcl S0 S) : KFo Rcl S0 (f_X1_join_67 N x1 S) := by
  unfold f_X1_join_67
  exact (K_xcV (fr_f_X1_push _ _ _ hS) (fun S35 hS35 => (K_xcV (fr_f_X9_pass _ _ hS35) (fun S37 hS37 => (K_ret hS37)))))
theorem fr_f_X1_join_26 {S0 : xS} (N : Nat) (x1 : Int32) (x2 : Int32) (s0 : Int32) (S : xS) (hS : Rcl S0 S) : KFo Rcl S0 (f_X1_join_26 N x1 x2 s0 S) := by
  unfold f_X1_join_26
  exact (K_xcV (fr_f_X1_release _ _ _ hS) (fun S39 hS39 => (K_ite (K_ite (fr_f_X1_join_67 _ _ _ hS39) (K_xin (fun _ => (K_xcI (fr_f_X1_rank _ _ _ hS39) (fun v45 S44 hS44 => (K_ite (K_thr hS44) (fr_f_X1_join_67 _ _ _ hS44))))) K_non)) (fr_f_X1_join_67 _ _ _ hS39))))
theorem fr_f_X1_join {S0 : xS} (N : Nat) (S : xS) (hS : Rcl S0 S) : KFo Rcl S0 (f_X1_join N S) := by
  unfold f_X1_join
  exact (K_xcI (fr_f_X9_sort _ _ hS) (fun v48 S47 hS47 => (K_xcI (fr_f_X1_rank _ _ _ hS47) (fun v50 S49 hS49 => (K_ite (fr_f_X1_join_26 _ _ _ _ _ hS49) (fr_f_X1_join_26 _ _ _ _ _ hS49))))))
theorem fr_f_X9_number_28 {S0 : xS} (N : Nat) (s0 : Int32) (S : xS) (hS : Rcl S0 S) : KFo Rcl S0 (f_X9_number_28 N s0 S) := by
  unfold f_X9_number_28
  exact (K_ret hS)
theorem fr_f_X9_number {S0 : xS} (N : Nat) (S : xS) (hS : Rcl S0 S) : KFo Rcl S0 (f_X9_number N S) := by
  unfold f_X9_number
  exact (K_xin (fun _ => (K_ite (fr_f_X9_number_28 _ _ _ hS) (fr_f_X9_number_28 _ _ _ hS))) K_non)
theorem fr_f_X9_name_27 {S0 : xS} (N : Nat) (sy0 : Int64) (S : xS) (hS : Rcl S0 S) : KFo Rcl S0 (f_X9_name_27 N sy0 S) := by
  unfold f_X9_name_27
  exact (K_ret hS)
theorem fr_f_X9_name {S0 : xS} (N : Nat) (S : xS) (hS : Rcl S0 S) : KFo Rcl S0 (f_X9_name N S) := by
  unfold f_X9_name
  exact (K_xin (fun _ => (K_ite (fr_f_X9_name_27 _ _ _ hS) (fr_f_X9_name_27 _ _ _ hS))) K_non)
theorem fr_f_X3_field_3 {S0 : xS} (N : Nat) : ∀ (n : Nat) (x1 : Int32) (y2 : Int64) (x4 : Int32) (S : xS), Rcl S0 S → KFo Rcl S0 (f_X3_field_3 N n x1 y2 x4 S) := by
  intro n
  induction n with
  | zero => intro x1 y2 x4 S _; exact K_non
  | succ n ih =>
    intro x1 y2 x4 S hS
    rw [f_X3_field_3.eq_2]
    exact (K_xin (fun _ => (K_ite (K_ret hS) (K_xin (fun _ => (K_ite (K_ret hS) (ih _ _ _ _ hS))) K_non))) K_non)
theorem fr_f_X3_field {S0 : xS} (N : Nat) (x1 : Int32) (y2 : Int64) (S : xS) (hS : Rcl S0 S) : KFo Rcl S0 (f_X3_field N x1 y2 S) := by
  unfold f_X3_field
  exact (fr_f_X3_field_3 _ _ _ _ _ _ hS)
theorem fr_f_X3_kind_2 {S0 : xS} (N : Nat) : ∀ (n : Nat) (y1 : Int64) (x3 : Int32) (S : xS), Rcl S0 S → KFo Rcl S0 (f_X3_kind_2 N n y1 x3 S) := by
  intro n
  induction n with
  | zero => intro y1 x3 S _; exact K_non
  | succ n ih =>
    intro y1 x3 S hS
    rw [f_X3_kind_2.eq_2]
    exact (K_ite (K_ret hS) (K_xin (fun _ => (K_ite (K_ret hS) (ih _ _ _ hS))) K_non))
theorem fr_f_X3_kind {S0 : xS} (N : Nat) (y1 : Int64) (S : xS) (hS : Rcl S0 S) : KFo Rcl S0 (f_X3_kind N y1 S) := by
  unfold f_X3_kind
  exact (fr_f_X3_kind_2 _ _ _ _ _ hS)
theorem fr_f_X7_cursor_63 {S0 : xS} (N : Nat) (k22 : Int32 → Int32 → xS → Option xr) (hk22 : ∀ (z0 : Int32) (z1 : Int32) (z2 : xS), Rcl S0 z2 → KFo Rcl S0 (k22 z0 z1 z2)) (x1 : Int32) (x2 : Int32) (S : xS) (hS : Rcl S0 S) : KFo Rcl S0 (f_X7_cursor_63 N k22 x1 x2 S) := by
  unfold f_X7_cursor_63
  exact (hk22 _ _ _ hS)
theorem fr_f_X7_cursor_22 {S0 : xS} (N : Nat) : ∀ (n : Nat) (x1 : Int32) (x2 : Int32) (S : xS), Rcl S0 S → KFo Rcl S0 (f_X7_cursor_22 N n x1 x2 S) := by
  intro n
  induction n with
  | zero => intro x1 x2 S _; exact K_non
  | succ n ih =>
    intro x1 x2 S hS
    rw [f_X7_cursor_22.eq_2]
    exact (K_ite (K_thr hS) (K_xin (fun _ => (K_xin (fun _ => (K_ite (K_ite (K_ret hS) (fr_f_X7_cursor_63 _ _ (fun z0 z1 z2 hh => ih z0 z1 z2 hh) _ _ _ hS)) (fr_f_X7_cursor_63 _ _ (fun z0 z1 z2 hh => ih z0 z1 z2 hh) _ _ _ hS))) K_non)) K_non))
theorem fr_f_X7_cursor {S0 : xS} (N : Nat) (S : xS) (hS : Rcl S0 S) : KFo Rcl S0 (f_X7_cursor N S) := by
  unfold f_X7_cursor
  exact (K_xcJ (fr_f_X9_name _ _ hS) (fun v25 S24 hS24 => (K_xcI (fr_f_X3_kind _ _ _ hS24) (fun v27 S26 hS26 => (fr_f_X7_cursor_22 _ _ _ _ _ hS26)))))
theorem fr_f_X7_takeKind {S0 : xS} (N : Nat) (S : xS) (hS : Rcl S0 S) : KFo Rcl S0 (f_X7_takeKind N S) := by
  unfold f_X7_takeKind
  exact (K_xcJ (fr_f_X9_name _ _ hS) (fun v9 S8 hS8 => (K_xcI (fr_f_X3_kind _ _ _ hS8) (fun v11 S10 hS10 => (K_ite (K_thr hS10) (K_xcV (fr_f_X9_pass _ _ hS10) (fun S13 hS13 => (K_ret hS13))))))))
theorem fr_f_X7_takeField {S0 : xS} (N : Nat) (x1 : Int32) (S : xS) (hS : Rcl S0 S) : KFo Rcl S0 (f_X7_takeField N x1 S) := by
  unfold f_X7_takeField
  exact (K_xcJ (fr_f_X9_name _ _ hS) (fun v9 S8 hS8 => (K_xcI (fr_f_X3_field _ _ _ _ hS8) (fun v11 S10 hS10 => (K_ite (K_thr hS10) (K_xcV (fr_f_X9_pass _ _ hS10) (fun S13 hS13 => (K_ret hS13))))))))
theorem fr_f_X3_variable_2 {S0 : xS} (N : Nat) : ∀ (n : Nat) (y1 : Int64) (x3 : Int32) (S : xS), Rcl S0 S → KFo Rcl S0 (f_X3_variable_2 N n y1 x3 S) := by
  intro n
  induction n with
  | zero => intro y1 x3 S _; exact K_non
  | succ n ih =>
    intro y1 x3 S hS
    rw [f_X3_variable_2.eq_2]
    exact (K_ite (K_ret hS) (K_xin (fun _ => (K_ite (K_ret hS) (ih _ _ _ hS))) K_non))
theorem fr_f_X3_variable {S0 : xS} (N : Nat) (y1 : Int64) (S : xS) (hS : Rcl S0 S) : KFo Rcl S0 (f_X3_variable N y1 S) := by
  unfold f_X3_variable
  exact (fr_f_X3_variable_2 _ _ _ _ _ hS)
theorem fr_f_X3_addVariable {S0 : xS} (N : Nat) (y1 : Int64) (S : xS) (hS : Rcl S0 S) : KFo Rcl S0 (f_X3_addVariable N y1 S) := by
  unfold f_X3_addVariable
  exact (K_ite (K_ret hS) (K_xin (fun _ => (K_ret (Rcl_I (Rcl_J hS (by omega)) (by omega)))) K_non))
theorem fr_f_X7_takeVariable_25 {S0 : xS} (N : Nat) (S : xS) (hS : Rcl S0 S) : KFo Rcl S0 (f_X7_takeVariable_25 N S) := by
  unfold f_X7_takeVariable_25
  exact (K_thr hS)
theorem fr_f_X7_takeVariable_56 {S0 : xS} (N : Nat) (x3 : Int32) (S : xS) (hS : Rcl S0 S) : KFo Rcl S0 (f_X7_takeVariable_56 N x3 S) := by
  unfold f_X7_takeVariable_56
  exact (K_ite (K_thr hS) (K_xcV (fr_f_X9_pass _ _ hS) (fun S30 hS30 => (K_ret hS30))))
theorem fr_f_X7_takeVariable {S0 : xS} (N : Nat) (S : xS) (hS : Rcl S0 S) : KFo Rcl S0 (f_X7_takeVariable N S) := by
  unfold f_X7_takeVariable
  exact (K_xcJ (fr_f_X9_name _ _ hS) (fun v33 S32 hS32 => (K_ite (fr_f_X7_takeVariable_25 _ _ hS32) (K_xcI (fr_f_X3_kind _ _ _ hS32) (fun v36 S35 hS35 => (K_ite (K_xcI (fr_f_X3_variable _ _ _ hS35) (fun v39 S38 hS38 => (K_ite (K_xcI (fr_f_X3_addVariable _ _ _ hS38) (fun v42 S41 hS41 => (fr_f_X7_takeVariable_56 _ _ _ hS41))) (fr_f_X7_takeVariable_56 _ _ _ hS38)))) (fr_f_X7_takeVariable_25 _ _ hS35)))))))
theorem fr_f_X1_named_147 {S0 : xS} (N : Nat) (S : xS) (hS : Rcl S0 S) : KFo Rcl S0 (f_X1_named_147 N S) := by
  unfold f_X1_named_147
  exact (K_ret hS)
theorem fr_f_X1_named_29 {S0 : xS} (N : Nat) (s0 : Int32) (S : xS) (hS : Rcl S0 S) : KFo Rcl S0 (f_X1_named_29 N s0 S) := by
  unfold f_X1_named_29
  exact (K_ite (K_xcJ (fr_f_X9_name _ _ hS) (fun v67 S66 hS66 => (K_xcI (fr_f_X3_kind _ _ _ hS66) (fun v69 S68 hS68 => (K_ite (K_xcR (fr_f_X5_addPart _ _ _ hS68) (fun v72 S71 hS71 => (K_xcI (fr_f_X7_takeVariable _ _ hS71) (fun v74 S73 hS73 => (K_xPart (fun _ => (fr_f_X1_named_147 _ _ (Rcl_I hS73 (by omega)))) K_non))))) (K_xcR (fr_f_X5_addPart _ _ _ hS68) (fun v77 S76 hS76 => (K_xcI (fr_f_X7_cursor _ _ hS76) (fun v79 S78 hS78 => (K_xPart (fun _ => (K_xcI (fr_f_X7_takeKind _ _ (Rcl_I hS78 (by omega))) (fun v82 S81 hS81 => (K_xcV (fr_f_X9_take _ _ _ hS81) (fun S83 hS83 => (K_xcI (fr_f_X7_takeField _ _ _ hS83) (fun v86 S85 hS85 => (fr_f_X1_named_147 _ _ (Rcl_I hS85 (by omega)))))))))) K_non)))))))))) (K_xcR (fr_f_X5_addPart _ _ _ hS) (fun v88 S87 hS87 => (K_xPart (fun _ => (K_xcV (fr_f_X9_pass _ _ (Rcl_I hS87 (by omega))) (fun S90 hS90 => (fr_f_X1_named_147 _ _ hS90)))) K_non))))
theorem fr_f_X1_named {S0 : xS} (N : Nat) (S : xS) (hS : Rcl S0 S) : KFo Rcl S0 (f_X1_named N S) := by
  unfold f_X1_named
  exact (K_ite (fr_f_X1_named_29 _ _ _ hS) (K_xcJ (fr_f_X9_name _ _ hS) (fun v94 S93 hS93 => (K_xcI (fr_f_X3_field _ _ _ _ hS93) (fun v96 S95 hS95 => (fr_f_X1_named_29 _ _ _ hS95))))))
theorem fr_f_X7_enter_20 {S0 : xS} (N : Nat) (S : xS) (hS : Rcl S0 S) : KFo Rcl S0 (f_X7_enter_20 N S) := by
  unfold f_X7_enter_20
  exact (K_thr hS)
theorem fr_f_X7_enter {S0 : xS} (N : Nat) (x1 : Int32) (S : xS) (hS : Rcl S0 S) : KFo Rcl S0 (f_X7_enter N x1 S) := by
  unfold f_X7_enter
  exact (K_xcI (fr_f_X9_sort _ _ hS) (fun v14 S13 hS13 => (K_ite (K_ite (fr_f_X7_enter_20 _ _ hS13) (K_xcV (fr_f_X9_pass _ _ (Rcl_I hS13 (by omega))) (fun S17 hS17 => (K_ret hS17)))) (fr_f_X7_enter_20 _ _ hS13))))
theorem fr_f_X1_prefix_67 {S0 : xS} (N : Nat) (s0 : Int32) (S : xS) (hS : Rcl S0 S) : KFo Rcl S0 (f_X1_prefix_67 N s0 S) := by
  unfold f_X1_prefix_67
  exact (K_xcV (fr_f_X1_push _ _ _ hS) (fun S29 hS29 => (K_xcV (fr_f_X9_pass _ _ hS29) (fun S31 hS31 => (K_ret hS31)))))
theorem fr_f_X1_prefix_55 {S0 : xS} (N : Nat) (x1 : Int32) (S : xS) (hS : Rcl S0 S) : KFo Rcl S0 (f_X1_prefix_55 N x1 S) := by
  unfold f_X1_prefix_55
  exact (K_ite (fr_f_X1_prefix_67 _ _ _ hS) (fr_f_X1_prefix_67 _ _ _ hS))
theorem fr_f_X1_prefix_17 {S0 : xS} (N : Nat) (s0 : Int32) (S : xS) (hS : Rcl S0 S) : KFo Rcl S0 (f_X1_prefix_17 N s0 S) := by
  unfold f_X1_prefix_17
  exact (K_ite (fr_f_X1_prefix_55 _ _ _ hS) (K_ite (fr_f_X1_prefix_55 _ _ _ hS) (K_xin (fun _ => (K_xcI (fr_f_X1_rank _ _ _ hS) (fun v38 S37 hS37 => (K_ite (fr_f_X1_prefix_55 _ _ _ hS37) (K_thr hS37))))) K_non)))
theorem fr_f_X1_prefix {S0 : xS} (N : Nat) (S : xS) (hS : Rcl S0 S) : KFo Rcl S0 (f_X1_prefix N S) := by
  unfold f_X1_prefix
  exact (K_xcI (fr_f_X9_sort _ _ hS) (fun v41 S40 hS40 => (K_ite (fr_f_X1_prefix_17 _ _ _ hS40) (fr_f_X1_prefix_17 _ _ _ hS40))))
theorem fr_f_X9_passed_33 {S0 : xS} (N : Nat) (x2 : Int32) (s0 : Int32) (s1 : Int32) (S : xS) (hS : Rcl S0 S) : KFo Rcl S0 (f_X9_passed_33 N x2 s0 s1 S) := by
  unfold f_X9_passed_33
  exact (K_ite (K_ret (Rcl_I hS (by omega))) K_non)
theorem fr_f_X9_passed_18 {S0 : xS} (N : Nat) (s0 : Int32) (S : xS) (hS : Rcl S0 S) : KFo Rcl S0 (f_X9_passed_18 N s0 S) := by
  unfold f_X9_passed_18
  exact (K_ite (fr_f_X9_passed_33 _ _ _ _ _ hS) (fr_f_X9_passed_33 _ _ _ _ _ hS))
theorem fr_f_X9_passed {S0 : xS} (N : Nat) (x1 : Int32) (S : xS) (hS : Rcl S0 S) : KFo Rcl S0 (f_X9_passed N x1 S) := by
  unfold f_X9_passed
  exact (K_xin (fun _ => (K_ite (fr_f_X9_passed_18 _ _ _ hS) (fr_f_X9_passed_18 _ _ _ hS))) K_non)
theorem fr_f_X1_aggregate_27 {S0 : xS} (N : Nat) (S : xS) (hS : Rcl S0 S) : KFo Rcl S0 (f_X1_aggregate_27 N S) := by
  unfold f_X1_aggregate_27
  exact (K_thr hS)
theorem fr_f_X1_aggregate_190 {S0 : xS} (N : Nat) (x3 : Int32) (S : xS) (hS : Rcl S0 S) : KFo Rcl S0 (f_X1_aggregate_190 N x3 S) := by
  unfold f_X1_aggregate_190
  exact (K_ite (K_ret hS) K_non)
theorem fr_f_X1_aggregate_137 {S0 : xS} (N : Nat) (a2 : Nat) (x3 : Int32) (s0 : Int32) (sa1 : Nat) (S : xS) (hS : Rcl S0 S) : KFo Rcl S0 (f_X1_aggregate_137 N a2 x3 s0 sa1 S) := by
  unfold f_X1_aggregate_137
  exact (K_xPart (fun _ => (K_xPart (fun _ => (K_ite (K_xcV (fr_f_X7_leave _ _ _ (Rcl_I (Rcl_I hS (by omega)) (by omega))) (fun S65 hS65 => (fr_f_X1_aggregate_190 _ _ _ hS65))) (K_xcV (fr_f_X1_push _ _ _ (Rcl_I (Rcl_I hS (by omega)) (by omega))) (fun S67 hS67 => (fr_f_X1_aggregate_190 _ _ _ (Rcl_I (Rcl_I hS67 (by omega)) (by omega))))))) K_non)) K_non)
theorem fr_f_X1_aggregate_112 {S0 : xS} (N : Nat) (a2 : Nat) (S : xS) (hS : Rcl S0 S) : KFo Rcl S0 (f_X1_aggregate_112 N a2 S) := by
  unfold f_X1_aggregate_112
  exact (K_xcI (fr_f_X9_passed _ _ _ hS) (fun v70 S69 hS69 => (K_ite (fr_f_X1_aggregate_137 _ _ _ _ _ _ hS69) (fr_f_X1_aggregate_137 _ _ _ _ _ _ hS69))))
theorem fr_f_X1_aggregate {S0 : xS} (N : Nat) (S : xS) (hS : Rcl S0 S) : KFo Rcl S0 (f_X1_aggregate N S) := by
  unfold f_X1_aggregate
  exact (K_xcI (fr_f_X9_sort _ _ hS) (fun v73 S72 hS72 => (K_ite (fr_f_X1_aggregate_27 _ _ hS72) (K_ite (fr_f_X1_aggregate_27 _ _ hS72) (K_ite (K_xcV (fr_f_X9_pass _ _ hS72) (fun S77 hS77 => (K_xcV (fr_f_X7_enter _ _ _ hS77) (fun S79 hS79 => (K_xcR (fr_f_X5_addPart _ _ _ (Rcl_I hS79 (by omega))) (fun v82 S81 hS81 => (K_xcI (fr_f_X7_takeKind _ _ hS81) (fun v84 S83 hS83 => (K_xPart (fun _ => (K_ite (fr_f_X1_aggregate_112 _ _ _ (Rcl_I hS83 (by omega))) (K_xcV (fr_f_X9_take _ _ _ (Rcl_I hS83 (by omega))) (fun S87 hS87 => (K_xcI (fr_f_X7_takeField _ _ _ hS87) (fun v90 S89 hS89 => (fr_f_X1_aggregate_112 _ _ _ (Rcl_I hS89 (by omega))))))))) K_non))))))))) (fr_f_X1_aggregate_27 _ _ hS72))))))
theorem fr_f_X1_read_222 {S0 : xS} (N : Nat) (x2 : Int32) (S : xS) (hS : Rcl S0 S) : KFo Rcl S0 (f_X1_read_222 N x2 S) := by
  unfold f_X1_read_222
  exact (K_ite (K_xcV (fr_f_X1_release _ _ _ hS) (fun S84 hS84 => (K_xcR (fr_f_X5_addPart _ _ _ hS84) (fun v87 S86 hS86 => (K_ret hS86))))) (K_thr hS))
theorem fr_f_X1_read_216 {S0 : xS} (N : Nat) (k28 : Int32 → Int32 → Int32 → xS → Option xr) (hk28 : ∀ (z0 : Int32) (z1 : Int32) (z2 : Int32) (z3 : xS), Rcl S0 z3 → KFo Rcl S0 (k28 z0 z1 z2 z3)) (x2 : Int32) (x3 : Int32) (x4 : Int32) (S : xS) (hS : Rcl S0 S) : KFo Rcl S0 (f_X1_read_216 N k28 x2 x3 x4 S) := by
  unfold f_X1_read_216
  exact (hk28 _ _ _ _ hS)
theorem fr_f_X1_read_74 {S0 : xS} (N : Nat) (k28 : Int32 → Int32 → Int32 → xS → Option xr) (hk28 : ∀ (z0 : Int32) (z1 : Int32) (z2 : Int32) (z3 : xS), Rcl S0 z3 → KFo Rcl S0 (k28 z0 z1 z2 z3)) (x2 : Int32) (x4 : Int32) (s0 : Int32) (S : xS) (hS : Rcl S0 S) : KFo Rcl S0 (f_X1_read_74 N k28 x2 x4 s0 S) := by
  unfold f_X1_read_74
  exact (fr_f_X1_read_216 _ _ hk28 _ _ _ _ hS)
theorem fr_f_X1_read_47 {S0 : xS} (N : Nat) (k28 : Int32 → Int32 → Int32 → xS → Option xr) (hk28 : ∀ (z0 : Int32) (z1 : Int32) (z2 : Int32) (z3 : xS), Rcl S0 z3 → KFo Rcl S0 (k28 z0 z1 z2 z3)) (x2 : Int32) (x3 : Int32) (x4 : Int32) (S : xS) (hS : Rcl S0 S) : KFo Rcl S0 (f_X1_read_47 N k28 x2 x3 x4 S) := by
  unfold f_X1_read_47
  exact (K_ite (K_xcI (fr_f_X9_sort _ _ hS) (fun v90 S89 hS89 => (K_ite (K_xcI (fr_f_X1_close _ _ hS89) (fun v93 S92 hS92 => (fr_f_X1_read_74 _ _ hk28 _ _ _ _ hS92))) (K_xcI (fr_f_X1_join _ _ hS89) (fun v95 S94 hS94 => (fr_f_X1_read_74 _ _ hk28 _ _ _ _ hS94)))))) (K_xcI (fr_f_X9_sort _ _ hS) (fun v97 S96 hS96 => (K_ite (K_xcV (fr_f_X1_prefix _ _ hS96) (fun S99 hS99 => (fr_f_X1_read_216 _ _ hk28 _ _ _ _ hS99))) (K_ite (K_xcV (fr_f_X7_enter _ _ _ hS96) (fun S102 hS102 => (K_xcV (fr_f_X1_push _ _ _ hS102) (fun S104 hS104 => (fr_f_X1_read_216 _ _ hk28 _ _ _ _ (Rcl_I hS104 (by omega))))))) (K_ite (K_xcV (fr_f_X1_named _ _ hS96) (fun S107 hS107 => (fr_f_X1_read_216 _ _ hk28 _ _ _ _ hS107))) (K_ite (K_xcR (fr_f_X5_addPart _ _ _ hS96) (fun v111 S110 hS110 => (K_xcI (fr_f_X9_number _ _ hS110) (fun v113 S112 hS112 => (K_xPart (fun _ => (K_xcV (fr_f_X9_pass _ _ (Rcl_I hS112 (by omega))) (fun S115 hS115 => (fr_f_X1_read_216 _ _ hk28 _ _ _ _ hS115)))) K_non))))) (K_xcI (fr_f_X1_aggregate _ _ hS96) (fun v118 S117 hS117 => (fr_f_X1_read_216 _ _ hk28 _ _ _ _ hS117))))))))))
theorem fr_f_X1_read_28 {S0 : xS} (N : Nat) : ∀ (n : Nat) (x2 : Int32) (x3 : Int32) (x4 : Int32) (S : xS), Rcl S0 S → KFo Rcl S0 (f_X1_read_28 N n x2 x3 x4 S) := by
  intro n
  induction n with
  | zero => intro x2 x3 x4 S _; exact K_non
  | succ n ih =>
    intro x2 x3 x4 S hS
    rw [f_X1_read_28.eq_2]
    exact (K_ite (fr_f_X1_read_222 _ _ _ hS) (K_ite (K_xcI (fr_f_X1_goesOn _ _ hS) (fun v122 S121 hS121 => (K_ite (fr_f_X1_read_222 _ _ _ hS121) (fr_f_X1_read_47 _ _ (fun z0 z1 z2 z3 hh => ih z0 z1 z2 z3 hh) _ _ _ _ hS121)))) (fr_f_X1_read_47 _ _ (fun z0 z1 z2 z3 hh => ih z0 z1 z2 z3 hh) _ _ _ _ hS)))
theorem fr_f_X1_read {S0 : xS} (N : Nat) (x1 : Int32) (S : xS) (hS : Rcl S0 S) : KFo Rcl S0 (f_X1_read N x1 S) := by
  unfold f_X1_read
  exact (fr_f_X1_read_28 _ _ _ _ _ _ (Rcl_I (Rcl_I (Rcl_I hS (by omega)) (by omega)) (by omega)))
theorem fr_f_X3_addKind {S0 : xS} (N : Nat) (y1 : Int64) (S : xS) (hS : Rcl S0 S) : KFo Rcl S0 (f_X3_addKind N y1 S) := by
  unfold f_X3_addKind
  exact (K_ite (K_ret hS) (K_xin (fun _ => (K_ret (Rcl_I (Rcl_J (Rcl_I hS (by omega)) (by omega)) (by omega)))) K_non))
theorem fr_f_X3_addField {S0 : xS} (N : Nat) (x1 : Int32) (y2 : Int64) (x4 : Int32) (S : xS) (hS : Rcl S0 S) : KFo Rcl S0 (f_X3_addField N x1 y2 x4 S) := by
  unfold f_X3_addField
  exact (K_xin (fun _ => (K_xin (fun _ => (K_ret (Rcl_I (Rcl_I (Rcl_J hS (by omega)) (by omega)) (by omega)))) K_non)) K_non)
theorem fr_f_X5_addStep {S0 : xS} (N : Nat) (x1 : Int32) (S : xS) (hS : Rcl S0 S) : KFo Rcl S0 (f_X5_addStep N x1 S) := by
  unfold f_X5_addStep
  exact (K_xin (fun _ => (K_ret (Rcl_I (Rcl_I hS (by omega)) (by omega)))) K_non)
theorem fr_f_X5_addPut {S0 : xS} (N : Nat) (x1 : Int32) (x2 : Int32) (S : xS) (hS : Rcl S0 S) : KFo Rcl S0 (f_X5_addPut N x1 x2 S) := by
  unfold f_X5_addPut
  exact (K_xin (fun _ => (K_ret (Rcl_I (Rcl_I (Rcl_I hS (by omega)) (by omega)) (by omega)))) K_non)
theorem fr_f_X6_field_27 {S0 : xS} (N : Nat) (S : xS) (hS : Rcl S0 S) : KFo Rcl S0 (f_X6_field_27 N S) := by
  unfold f_X6_field_27
  exact (K_thr hS)
theorem fr_f_X6_field_79 {S0 : xS} (N : Nat) (S : xS) (hS : Rcl S0 S) : KFo Rcl S0 (f_X6_field_79 N S) := by
  unfold f_X6_field_79
  exact (K_thr hS)
theorem fr_f_X6_field {S0 : xS} (N : Nat) (x1 : Int32) (x2 : Int32) (S : xS) (hS : Rcl S0 S) : KFo Rcl S0 (f_X6_field N x1 x2 S) := by
  unfold f_X6_field
  exact (K_xcJ (fr_f_X9_name _ _ hS) (fun v40 S39 hS39 => (K_ite (fr_f_X6_field_27 _ _ hS39) (K_xcI (fr_f_X3_field _ _ _ _ hS39) (fun v43 S42 hS42 => (K_ite (K_xcV (fr_f_X9_pass _ _ hS42) (fun S45 hS45 => (K_xcV (fr_f_X9_take _ _ _ hS45) (fun S47 hS47 => (K_xcI (fr_f_X9_number _ _ hS47) (fun v50 S49 hS49 => (K_ite (fr_f_X6_field_79 _ _ hS49) (K_ite (fr_f_X6_field_79 _ _ hS49) (K_ite (K_xcV (fr_f_X9_pass _ _ hS49) (fun S54 hS54 => (K_xcV (fr_f_X3_addField _ _ _ _ _ hS54) (fun S56 hS56 => (K_ret hS56))))) (fr_f_X6_field_79 _ _ hS49)))))))))) (fr_f_X6_field_27 _ _ hS42)))))))
theorem fr_f_X6_kind_149 {S0 : xS} (N : Nat) (S : xS) (hS : Rcl S0 S) : KFo Rcl S0 (f_X6_kind_149 N S) := by
  unfold f_X6_kind_149
  exact (K_xcV (fr_f_X9_take _ _ _ hS) (fun S57 hS57 => (K_ret hS57)))
theorem fr_f_X6_kind_127 {S0 : xS} (N : Nat) (k103 : Int32 → Int32 → Int32 → xS → Option xr) (hk103 : ∀ (z0 : Int32) (z1 : Int32) (z2 : Int32) (z3 : xS), Rcl S0 z3 → KFo Rcl S0 (k103 z0 z1 z2 z3)) (x4 : Int32) (x5 : Int32) (x6 : Int32) (S : xS) (hS : Rcl S0 S) : KFo Rcl S0 (f_X6_kind_127 N k103 x4 x5 x6 S) := by
  unfold f_X6_kind_127
  exact (K_xcI (fr_f_X6_field _ _ _ _ hS) (fun v60 S59 hS59 => (hk103 _ _ _ _ hS59)))
theorem fr_f_X6_kind_103 {S0 : xS} (N : Nat) : ∀ (n : Nat) (x4 : Int32) (x5 : Int32) (x6 : Int32) (S : xS), Rcl S0 S → KFo Rcl S0 (f_X6_kind_103 N n x4 x5 x6 S) := by
  intro n
  induction n with
  | zero => intro x4 x5 x6 S _; exact K_non
  | succ n ih =>
    intro x4 x5 x6 S hS
    rw [f_X6_kind_103.eq_2]
    exact (K_ite (fr_f_X6_kind_149 _ _ hS) (K_ite (fr_f_X6_kind_127 _ _ (fun z0 z1 z2 z3 hh => ih z0 z1 z2 z3 hh) _ _ _ _ hS) (K_xcI (fr_f_X9_passed _ _ _ hS) (fun v64 S63 hS63 => (K_ite (fr_f_X6_kind_149 _ _ hS63) (fr_f_X6_kind_127 _ _ (fun z0 z1 z2 z3 hh => ih z0 z1 z2 z3 hh) _ _ _ _ hS63))))))
theorem fr_f_X6_kind_75 {S0 : xS} (N : Nat) (s0 : Int32) (S : xS) (hS : Rcl S0 S) : KFo Rcl S0 (f_X6_kind_75 N s0 S) := by
  unfold f_X6_kind_75
  exact (K_ite (K_thr hS) (K_xcV (fr_f_X9_pass _ _ hS) (fun S67 hS67 => (fr_f_X6_kind_103 _ _ _ _ _ _ hS67))))
theorem fr_f_X6_kind_58 {S0 : xS} (N : Nat) (y1 : Int64) (s0 : Int32) (S : xS) (hS : Rcl S0 S) : KFo Rcl S0 (f_X6_kind_58 N y1 s0 S) := by
  unfold f_X6_kind_58
  exact (K_ite (fr_f_X6_kind_75 _ _ _ hS) (K_xcI (fr_f_X3_addKind _ _ _ hS) (fun v71 S70 hS70 => (fr_f_X6_kind_75 _ _ _ hS70))))
theorem fr_f_X6_kind_57 {S0 : xS} (N : Nat) (y1 : Int64) (S : xS) (hS : Rcl S0 S) : KFo Rcl S0 (f_X6_kind_57 N y1 S) := by
  unfold f_X6_kind_57
  exact (fr_f_X6_kind_58 _ _ _ _ hS)
theorem fr_f_X6_kind {S0 : xS} (N : Nat) (S : xS) (hS : Rcl S0 S) : KFo Rcl S0 (f_X6_kind N S) := by
  unfold f_X6_kind
  exact (K_xcR (fr_f_X5_addStep _ _ _ hS) (fun v73 S72 hS72 => (K_xcV (fr_f_X9_pass _ _ hS72) (fun S74 hS74 => (K_xcJ (fr_f_X9_name _ _ hS74) (fun v77 S76 hS76 => (K_ite (fr_f_X6_kind_57 _ _ _ hS76) (K_xcI (fr_f_X3_kind _ _ _ hS76) (fun v80 S79 hS79 => (K_ite (K_xcI (fr_f_X3_variable _ _ _ hS79) (fun v83 S82 hS82 => (K_ite (fr_f_X6_kind_58 _ _ _ _ hS82) (fr_f_X6_kind_57 _ _ _ hS82)))) (fr_f_X6_kind_57 _ _ _ hS79)))))))))))
theorem fr_f_X6_puts_129 {S0 : xS} (N : Nat) (a1 : Nat) (S : xS) (hS : Rcl S0 S) : KFo Rcl S0 (f_X6_puts_129 N a1 S) := by
  unfold f_X6_puts_129
  exact (K_xStep (fun _ => (K_ret (Rcl_I hS (by omega)))) K_non)
theorem fr_f_X6_puts_75 {S0 : xS} (N : Nat) (S : xS) (hS : Rcl S0 S) : KFo Rcl S0 (f_X6_puts_75 N S) := by
  unfold f_X6_puts_75
  exact (K_thr hS)
theorem fr_f_X6_puts_40 {S0 : xS} (N : Nat) (k16 : Nat → Int32 → Int32 → Int32 → xS → Option xr) (hk16 : ∀ (z0 : Nat) (z1 : Int32) (z2 : Int32) (z3 : Int32) (z4 : xS), Rcl S0 z4 → KFo Rcl S0 (k16 z0 z1 z2 z3 z4)) (a1 : Nat) (x2 : Int32) (x3 : Int32) (x4 : Int32) (S : xS) (hS : Rcl S0 S) : KFo Rcl S0 (f_X6_puts_40 N k16 a1 x2 x3 x4 S) := by
  unfold f_X6_puts_40
  exact (K_xStep (fun _ => (K_xcJ (fr_f_X9_name _ _ hS) (fun v48 S47 hS47 => (K_xcI (fr_f_X3_field _ _ _ _ hS47) (fun v50 S49 hS49 => (K_ite (fr_f_X6_puts_75 _ _ hS49) (K_ite (K_xcV (fr_f_X9_pass _ _ hS49) (fun S53 hS53 => (K_xcV (fr_f_X9_take _ _ _ hS53) (fun S55 hS55 => (K_xcI (fr_f_X1_read _ _ _ hS55) (fun v58 S57 hS57 => (K_xcV (fr_f_X5_addPut _ _ _ _ hS57) (fun S59 hS59 => (hk16 _ _ _ _ _ hS59))))))))) (fr_f_X6_puts_75 _ _ hS49)))))))) K_non)
theorem fr_f_X6_puts_16 {S0 : xS} (N : Nat) : ∀ (n : Nat) (a1 : Nat) (x2 : Int32) (x3 : Int32) (x4 : Int32) (S : xS), Rcl S0 S → KFo Rcl S0 (f_X6_puts_16 N n a1 x2 x3 x4 S) := by
  intro n
  induction n with
  | zero => intro a1 x2 x3 x4 S _; exact K_non
  | succ n ih =>
    intro a1 x2 x3 x4 S hS
    rw [f_X6_puts_16.eq_2]
    exact (K_ite (fr_f_X6_puts_129 _ _ _ hS) (K_ite (fr_f_X6_puts_40 _ _ (fun z0 z1 z2 z3 z4 hh => ih z0 z1 z2 z3 z4 hh) _ _ _ _ _ hS) (K_xcI (fr_f_X9_passed _ _ _ hS) (fun v64 S63 hS63 => (K_ite (fr_f_X6_puts_129 _ _ _ hS63) (fr_f_X6_puts_40 _ _ (fun z0 z1 z2 z3 z4 hh => ih z0 z1 z2 z3 z4 hh) _ _ _ _ _ hS63))))))
theorem fr_f_X6_puts {S0 : xS} (N : Nat) (a1 : Nat) (x2 : Int32) (S : xS) (hS : Rcl S0 S) : KFo Rcl S0 (f_X6_puts N a1 x2 S) := by
  unfold f_X6_puts
  exact (K_xStep (fun _ => (fr_f_X6_puts_16 _ _ _ _ _ _ _ (Rcl_I hS (by omega)))) K_non)
theorem fr_f_X6_insert {S0 : xS} (N : Nat) (S : xS) (hS : Rcl S0 S) : KFo Rcl S0 (f_X6_insert N S) := by
  unfold f_X6_insert
  exact (K_xcR (fr_f_X5_addStep _ _ _ hS) (fun v13 S12 hS12 => (K_xcV (fr_f_X9_pass _ _ hS12) (fun S14 hS14 => (K_xcI (fr_f_X7_takeKind _ _ hS14) (fun v17 S16 hS16 => (K_xStep (fun _ => (K_xcV (fr_f_X6_puts _ _ _ _ (Rcl_I hS16 (by omega))) (fun S19 hS19 => (K_xcV (fr_f_X9_take _ _ _ hS19) (fun S21 hS21 => (K_ret hS21)))))) K_non)))))))
theorem fr_f_X6_where_23 {S0 : xS} (N : Nat) (s0 : Int32) (S : xS) (hS : Rcl S0 S) : KFo Rcl S0 (f_X6_where_23 N s0 S) := by
  unfold f_X6_where_23
  exact (K_ret hS)
theorem fr_f_X6_where {S0 : xS} (N : Nat) (x1 : Int32) (S : xS) (hS : Rcl S0 S) : KFo Rcl S0 (f_X6_where N x1 S) := by
  unfold f_X6_where
  exact (K_xcI (fr_f_X9_passed _ _ _ hS) (fun v12 S11 hS11 => (K_ite (fr_f_X6_where_23 _ _ _ hS11) (K_xcI (fr_f_X1_read _ _ _ hS11) (fun v15 S14 hS14 => (fr_f_X6_where_23 _ _ _ hS14))))))
theorem fr_f_X6_delete {S0 : xS} (N : Nat) (S : xS) (hS : Rcl S0 S) : KFo Rcl S0 (f_X6_delete N S) := by
  unfold f_X6_delete
  exact (K_xcR (fr_f_X5_addStep _ _ _ hS) (fun v13 S12 hS12 => (K_xcV (fr_f_X9_pass _ _ hS12) (fun S14 hS14 => (K_xcI (fr_f_X7_takeKind _ _ hS14) (fun v17 S16 hS16 => (K_xStep (fun _ => (K_xcI (fr_f_X6_where _ _ _ (Rcl_I hS16 (by omega))) (fun v20 S19 hS19 => (K_xcV (fr_f_X9_take _ _ _ (Rcl_I hS19 (by omega))) (fun S21 hS21 => (K_ret hS21)))))) K_non)))))))
theorem fr_f_X6_set {S0 : xS} (N : Nat) (S : xS) (hS : Rcl S0 S) : KFo Rcl S0 (f_X6_set N S) := by
  unfold f_X6_set
  exact (K_xcR (fr_f_X5_addStep _ _ _ hS) (fun v17 S16 hS16 => (K_xcV (fr_f_X9_pass _ _ hS16) (fun S18 hS18 => (K_xcI (fr_f_X7_takeKind _ _ hS18) (fun v21 S20 hS20 => (K_xStep (fun _ => (K_xcI (fr_f_X6_where _ _ _ (Rcl_I hS20 (by omega))) (fun v24 S23 hS23 => (K_xcV (fr_f_X9_take _ _ _ (Rcl_I hS23 (by omega))) (fun S25 hS25 => (K_xcV (fr_f_X6_puts _ _ _ _ hS25) (fun S27 hS27 => (K_xcV (fr_f_X9_take _ _ _ hS27) (fun S29 hS29 => (K_ret hS29)))))))))) K_non)))))))
theorem fr_f_X6_let {S0 : xS} (N : Nat) (S : xS) (hS : Rcl S0 S) : KFo Rcl S0 (f_X6_let N S) := by
  unfold f_X6_let
  exact (K_xcR (fr_f_X5_addStep _ _ _ hS) (fun v15 S14 hS14 => (K_xcV (fr_f_X9_pass _ _ hS14) (fun S16 hS16 => (K_xcI (fr_f_X7_takeVariable _ _ hS16) (fun v19 S18 hS18 => (K_xStep (fun _ => (K_xcV (fr_f_X9_take _ _ _ (Rcl_I hS18 (by omega))) (fun S21 hS21 => (K_xcI (fr_f_X1_read _ _ _ hS21) (fun v24 S23 hS23 => (K_xcV (fr_f_X9_take _ _ _ (Rcl_I hS23 (by omega))) (fun S25 hS25 => (K_ret hS25)))))))) K_non)))))))
theorem fr_f_X6_output {S0 : xS} (N : Nat) (S : xS) (hS : Rcl S0 S) : KFo Rcl S0 (f_X6_output N S) := by
  unfold f_X6_output
  exact (K_xcR (fr_f_X5_addStep _ _ _ hS) (fun v11 S10 hS10 => (K_xcV (fr_f_X9_pass _ _ hS10) (fun S12 hS12 => (K_xcI (fr_f_X1_read _ _ _ hS12) (fun v15 S14 hS14 => (K_xStep (fun _ => (K_xcV (fr_f_X9_take _ _ _ (Rcl_I hS14 (by omega))) (fun S17 hS17 => (K_ret hS17)))) K_non)))))))
theorem fr_f_X7_openBlock {S0 : xS} (N : Nat) (x1 : Int32) (S : xS) (hS : Rcl S0 S) : KFo Rcl S0 (f_X7_openBlock N x1 S) := by
  unfold f_X7_openBlock
  exact (K_xcV (fr_f_X7_enter _ _ _ hS) (fun S4 hS4 => (K_xin (fun _ => (K_ret (Rcl_I (Rcl_I hS4 (by omega)) (by omega)))) K_non)))
theorem fr_f_X6_each {S0 : xS} (N : Nat) (S : xS) (hS : Rcl S0 S) : KFo Rcl S0 (f_X6_each N S) := by
  unfold f_X6_each
  exact (K_xcR (fr_f_X5_addStep _ _ _ hS) (fun v20 S19 hS19 => (K_xcV (fr_f_X9_pass _ _ hS19) (fun S21 hS21 => (K_xcI (fr_f_X7_takeKind _ _ hS21) (fun v24 S23 hS23 => (K_xStep (fun _ => (K_xcV (fr_f_X9_take _ _ _ (Rcl_I hS23 (by omega))) (fun S26 hS26 => (K_xcI (fr_f_X7_takeField _ _ _ hS26) (fun v29 S28 hS28 => (K_xcI (fr_f_X6_where _ _ _ (Rcl_I hS28 (by omega))) (fun v31 S30 hS30 => (K_xcR (fr_f_X5_addStep _ _ _ (Rcl_I (Rcl_I hS30 (by omega)) (by omega))) (fun v33 S32 hS32 => (K_xStep (fun _ => (K_xcV (fr_f_X7_openBlock _ _ _ (Rcl_I (Rcl_I hS32 (by omega)) (by omega))) (fun S35 hS35 => (K_ret hS35)))) K_non)))))))))) K_non)))))))
theorem fr_f_X6_conditional {S0 : xS} (N : Nat) (S : xS) (hS : Rcl S0 S) : KFo Rcl S0 (f_X6_conditional N S) := by
  unfold f_X6_conditional
  exact (K_xcI (fr_f_X9_sort _ _ hS) (fun v13 S12 hS12 => (K_xcR (fr_f_X5_addStep _ _ _ hS12) (fun v15 S14 hS14 => (K_xcV (fr_f_X9_pass _ _ hS14) (fun S16 hS16 => (K_xcI (fr_f_X1_read _ _ _ hS16) (fun v19 S18 hS18 => (K_xStep (fun _ => (K_xcV (fr_f_X7_openBlock _ _ _ (Rcl_I hS18 (by omega))) (fun S21 hS21 => (K_ret hS21)))) K_non)))))))))
theorem fr_f_X6_remove {S0 : xS} (N : Nat) (S : xS) (hS : Rcl S0 S) : KFo Rcl S0 (f_X6_remove N S) := by
  unfold f_X6_remove
  exact (K_xcR (fr_f_X5_addStep _ _ _ hS) (fun v13 S12 hS12 => (K_xcV (fr_f_X9_pass _ _ hS12) (fun S14 hS14 => (K_xcI (fr_f_X7_cursor _ _ hS14) (fun v17 S16 hS16 => (K_xStep (fun _ => (K_xcI (fr_f_X7_takeKind _ _ (Rcl_I hS16 (by omega))) (fun v20 S19 hS19 => (K_xcV (fr_f_X9_take _ _ _ (Rcl_I hS19 (by omega))) (fun S21 hS21 => (K_ret hS21)))))) K_non)))))))
theorem fr_f_X7_closeBlock {S0 : xS} (N : Nat) (S : xS) (hS : Rcl S0 S) : KFo Rcl S0 (f_X7_closeBlock N S) := by
  unfold f_X7_closeBlock
  exact (K_ite (K_thr hS) (K_xcV (fr_f_X7_leave _ _ _ hS) (fun S6 hS6 => (K_xin (fun _ => (K_ret (Rcl_I hS6 (by omega)))) K_non))))
theorem fr_f_X6_closeBlock_99 {S0 : xS} (N : Nat) (a2 : Nat) (S : xS) (hS : Rcl S0 S) : KFo Rcl S0 (f_X6_closeBlock_99 N a2 S) := by
  unfold f_X6_closeBlock_99
  exact (K_xStep (fun _ => (K_ret (Rcl_I hS (by omega)))) K_non)
theorem fr_f_X6_closeBlock_44 {S0 : xS} (N : Nat) (x1 : Int32) (a2 : Nat) (S : xS) (hS : Rcl S0 S) : KFo Rcl S0 (f_X6_closeBlock_44 N x1 a2 S) := by
  unfold f_X6_closeBlock_44
  exact (K_xcR (fr_f_X5_addStep _ _ _ hS) (fun v37 S36 hS36 => (K_xStep (fun _ => (fr_f_X6_closeBlock_99 _ _ _ (Rcl_I hS36 (by omega)))) K_non)))
theorem fr_f_X6_closeBlock {S0 : xS} (N : Nat) (S : xS) (hS : Rcl S0 S) : KFo Rcl S0 (f_X6_closeBlock N S) := by
  unfold f_X6_closeBlock
  exact (K_xcI (fr_f_X7_closeBlock _ _ hS) (fun v40 S39 hS39 => (K_xin (fun _ => (K_ite (fr_f_X6_closeBlock_44 _ _ _ _ hS39) (K_ite (fr_f_X6_closeBlock_44 _ _ _ _ hS39) (K_ite (K_xcI (fr_f_X9_passed _ _ _ hS39) (fun v46 S45 hS45 => (K_ite (fr_f_X6_closeBlock_99 _ _ _ hS45) (K_xcR (fr_f_X5_addStep _ _ _ hS45) (fun v49 S48 hS48 => (K_xcV (fr_f_X7_openBlock _ _ _ hS48) (fun S50 hS50 => (fr_f_X6_closeBlock_99 _ _ _ hS50)))))))) (fr_f_X6_closeBlock_99 _ _ _ hS39))))) K_non)))
theorem fr_f_X6_change {S0 : xS} (N : Nat) (S : xS) (hS : Rcl S0 S) : KFo Rcl S0 (f_X6_change N S) := by
  unfold f_X6_change
  exact (K_xcR (fr_f_X5_addStep _ _ _ hS) (fun v19 S18 hS18 => (K_xcI (fr_f_X7_cursor _ _ hS18) (fun v21 S20 hS20 => (K_xStep (fun _ => (K_xcI (fr_f_X7_takeKind _ _ (Rcl_I hS20 (by omega))) (fun v24 S23 hS23 => (K_xcV (fr_f_X9_take _ _ _ (Rcl_I hS23 (by omega))) (fun S25 hS25 => (K_xcI (fr_f_X7_takeField _ _ _ hS25) (fun v28 S27 hS27 => (K_xcV (fr_f_X9_take _ _ _ (Rcl_I hS27 (by omega))) (fun S29 hS29 => (K_xcI (fr_f_X1_read _ _ _ hS29) (fun v32 S31 hS31 => (K_xcV (fr_f_X9_take _ _ _ (Rcl_I hS31 (by omega))) (fun S33 hS33 => (K_ret hS33)))))))))))))) K_non)))))
theorem fr_f_X6_noBlockIsOpen {S0 : xS} (N : Nat) (S : xS) (hS : Rcl S0 S) : KFo Rcl S0 (f_X6_noBlockIsOpen N S) := by
  unfold f_X6_noBlockIsOpen
  exact (K_ite (K_ret hS) (K_thr hS))
theorem fr_f_X9_behindBlanks_38 {S0 : xS} (N : Nat) (x2 : Int32) (S : xS) (hS : Rcl S0 S) : KFo Rcl S0 (f_X9_behindBlanks_38 N x2 S) := by
  unfold f_X9_behindBlanks_38
  exact (K_ret hS)
theorem fr_f_X9_behindBlanks_32 {S0 : xS} (N : Nat) (k2 : Int32 → xS → Option xr) (hk2 : ∀ (z0 : Int32) (z1 : xS), Rcl S0 z1 → KFo Rcl S0 (k2 z0 z1)) (x2 : Int32) (S : xS) (hS : Rcl S0 S) : KFo Rcl S0 (f_X9_behindBlanks_32 N k2 x2 S) := by
  unfold f_X9_behindBlanks_32
  exact (hk2 _ _ hS)
theorem fr_f_X9_behindBlanks_2 {S0 : xS} (N : Nat) : ∀ (n : Nat) (x2 : Int32) (S : xS), Rcl S0 S → KFo Rcl S0 (f_X9_behindBlanks_2 N n x2 S) := by
  intro n
  induction n with
  | zero => intro x2 S _; exact K_non
  | succ n ih =>
    intro x2 S hS
    rw [f_X9_behindBlanks_2.eq_2]
    exact (K_ite (fr_f_X9_behindBlanks_38 _ _ _ hS) (K_xin (fun _ => (K_ite (fr_f_X9_behindBlanks_32 _ _ (fun z0 z1 hh => ih z0 z1 hh) _ _ hS) (K_ite (fr_f_X9_behindBlanks_32 _ _ (fun z0 z1 hh => ih z0 z1 hh) _ _ hS) (fr_f_X9_behindBlanks_38 _ _ _ hS)))) K_non))
theorem fr_f_X9_behindBlanks {S0 : xS} (N : Nat) (x1 : Int32) (S : xS) (hS : Rcl S0 S) : KFo Rcl S0 (f_X9_behindBlanks N x1 S) := by
  unfold f_X9_behindBlanks
  exact (fr_f_X9_behindBlanks_2 _ _ _ _ hS)
theorem fr_f_X9_isLetter_17 {S0 : xS} (N : Nat) (s0 : Int32) (S : xS) (hS : Rcl S0 S) : KFo Rcl S0 (f_X9_isLetter_17 N s0 S) := by
  unfold f_X9_isLetter_17
  exact (K_ite (K_ret hS) K_non)
theorem fr_f_X9_isLetter_16 {S0 : xS} (N : Nat) (S : xS) (hS : Rcl S0 S) : KFo Rcl S0 (f_X9_isLetter_16 N S) := by
  unfold f_X9_isLetter_16
  exact (fr_f_X9_isLetter_17 _ _ _ hS)
theorem fr_f_X9_isLetter {S0 : xS} (N : Nat) (x0 : Int32) (S : xS) (hS : Rcl S0 S) : KFo Rcl S0 (f_X9_isLetter N x0 S) := by
  unfold f_X9_isLetter
  exact (K_ite (fr_f_X9_isLetter_16 _ _ hS) (K_ite (fr_f_X9_isLetter_16 _ _ hS) (fr_f_X9_isLetter_17 _ _ _ hS)))
theorem fr_f_X9_longer {S0 : xS} (N : Nat) (y0 : Int64) (x2 : Int32) (S : xS) (hS : Rcl S0 S) : KFo Rcl S0 (f_X9_longer N y0 x2 S) := by
  unfold f_X9_longer
  exact (K_ret hS)
theorem fr_f_X9_wordOrName_2 {S0 : xS} (N : Nat) : ∀ (n : Nat) (y1 : Int64) (x3 : Int32) (S : xS), Rcl S0 S → KFo Rcl S0 (f_X9_wordOrName_2 N n y1 x3 S) := by
  intro n
  induction n with
  | zero => intro y1 x3 S _; exact K_non
  | succ n ih =>
    intro y1 x3 S hS
    rw [f_X9_wordOrName_2.eq_2]
    exact (K_ite (K_ret hS) (K_xin (fun _ => (K_ite (K_ret hS) (ih _ _ _ hS))) K_non))
theorem fr_f_X9_wordOrName {S0 : xS} (N : Nat) (y1 : Int64) (S : xS) (hS : Rcl S0 S) : KFo Rcl S0 (f_X9_wordOrName N y1 S) := by
  unfold f_X9_wordOrName
  exact (fr_f_X9_wordOrName_2 _ _ _ _ _ hS)
theorem fr_f_X9_cutName_82 {S0 : xS} (N : Nat) (x4 : Int32) (s0 : Int32) (s1 : Int32) (S : xS) (hS : Rcl S0 S) : KFo Rcl S0 (f_X9_cutName_82 N x4 s0 s1 S) := by
  unfold f_X9_cutName_82
  exact (K_xin (fun _ => (K_ret (Rcl_I hS (by omega)))) K_non)
theorem fr_f_X9_cutName_45 {S0 : xS} (N : Nat) (x1 : Int32) (y2 : Int64) (x4 : Int32) (S : xS) (hS : Rcl S0 S) : KFo Rcl S0 (f_X9_cutName_45 N x1 y2 x4 S) := by
  unfold f_X9_cutName_45
  exact (K_xin (fun _ => (K_ite (K_xcI (fr_f_X9_wordOrName _ _ _ (Rcl_J hS (by omega))) (fun v29 S28 hS28 => (fr_f_X9_cutName_82 _ _ _ _ _ hS28))) (fr_f_X9_cutName_82 _ _ _ _ _ (Rcl_J hS (by omega))))) K_non)
theorem fr_f_X9_cutName_5 {S0 : xS} (N : Nat) : ∀ (n : Nat) (x1 : Int32) (y2 : Int64) (x4 : Int32) (S : xS), Rcl S0 S → KFo Rcl S0 (f_X9_cutName_5 N n x1 y2 x4 S) := by
  intro n
  induction n with
  | zero => intro x1 y2 x4 S _; exact K_non
  | succ n ih =>
    intro x1 y2 x4 S hS
    rw [f_X9_cutName_5.eq_2]
    exact (K_ite (fr_f_X9_cutName_45 _ _ _ _ _ hS) (K_xin (fun _ => (K_xcI (fr_f_X9_isLetter _ _ _ hS) (fun v33 S32 hS32 => (K_ite (fr_f_X9_cutName_45 _ _ _ _ _ hS32) (K_xcJ (fr_f_X9_longer _ _ _ _ hS32) (fun v36 S35 hS35 => (ih _ _ _ _ hS35))))))) K_non))
theorem fr_f_X9_cutName {S0 : xS} (N : Nat) (x1 : Int32) (S : xS) (hS : Rcl S0 S) : KFo Rcl S0 (f_X9_cutName N x1 S) := by
  unfold f_X9_cutName
  exact (fr_f_X9_cutName_5 _ _ _ _ _ _ hS)
theorem fr_f_X9_isDigit_17 {S0 : xS} (N : Nat) (s0 : Int32) (S : xS) (hS : Rcl S0 S) : KFo Rcl S0 (f_X9_isDigit_17 N s0 S) := by
  unfold f_X9_isDigit_17
  exact (K_ite (K_ret hS) K_non)
theorem fr_f_X9_isDigit_16 {S0 : xS} (N : Nat) (S : xS) (hS : Rcl S0 S) : KFo Rcl S0 (f_X9_isDigit_16 N S) := by
  unfold f_X9_isDigit_16
  exact (fr_f_X9_isDigit_17 _ _ _ hS)
theorem fr_f_X9_isDigit {S0 : xS} (N : Nat) (x0 : Int32) (S : xS) (hS : Rcl S0 S) : KFo Rcl S0 (f_X9_isDigit N x0 S) := by
  unfold f_X9_isDigit
  exact (K_ite (fr_f_X9_isDigit_16 _ _ hS) (K_ite (fr_f_X9_isDigit_16 _ _ hS) (fr_f_X9_isDigit_17 _ _ _ hS)))
theorem fr_f_J9_min_f86c9_11 {S0 : xS} (N : Nat) (sy0 : Int64) (S : xS) (hS : Rcl S0 S) : KFo Rcl S0 (f_J9_min_f86c9_11 N sy0 S) := by
  unfold f_J9_min_f86c9_11
  exact (K_ret hS)
theorem fr_f_J9_min_f86c9 {S0 : xS} (N : Nat) (y0 : Int64) (y2 : Int64) (S : xS) (hS : Rcl S0 S) : KFo Rcl S0 (f_J9_min_f86c9 N y0 y2 S) := by
  unfold f_J9_min_f86c9
  exact (K_ite (fr_f_J9_min_f86c9_11 _ _ _ hS) (fr_f_J9_min_f86c9_11 _ _ _ hS))
theorem fr_f_X9_cutNumber_91 {S0 : xS} (N : Nat) (x4 : Int32) (s0 : Int32) (s1 : Int32) (S : xS) (hS : Rcl S0 S) : KFo Rcl S0 (f_X9_cutNumber_91 N x4 s0 s1 S) := by
  unfold f_X9_cutNumber_91
  exact (K_xin (fun _ => (K_ret (Rcl_I hS (by omega)))) K_non)
theorem fr_f_X9_cutNumber_58 {S0 : xS} (N : Nat) (y2 : Int64) (x4 : Int32) (S : xS) (hS : Rcl S0 S) : KFo Rcl S0 (f_X9_cutNumber_58 N y2 x4 S) := by
  unfold f_X9_cutNumber_58
  exact (K_xin (fun _ => (K_ite (fr_f_X9_cutNumber_91 _ _ _ _ _ (Rcl_J hS (by omega))) (fr_f_X9_cutNumber_91 _ _ _ _ _ (Rcl_J hS (by omega))))) K_non)
theorem fr_f_X9_cutNumber_5 {S0 : xS} (N : Nat) : ∀ (n : Nat) (y2 : Int64) (x4 : Int32) (S : xS), Rcl S0 S → KFo Rcl S0 (f_X9_cutNumber_5 N n y2 x4 S) := by
  intro n
  induction n with
  | zero => intro y2 x4 S _; exact K_non
  | succ n ih =>
    intro y2 x4 S hS
    rw [f_X9_cutNumber_5.eq_2]
    exact (K_ite (fr_f_X9_cutNumber_58 _ _ _ _ hS) (K_xin (fun _ => (K_xcI (fr_f_X9_isDigit _ _ _ hS) (fun v27 S26 hS26 => (K_ite (fr_f_X9_cutNumber_58 _ _ _ _ hS26) (K_xcJ (fr_f_J9_min_f86c9 _ _ _ _ hS26) (fun v30 S29 hS29 => (ih _ _ _ hS29))))))) K_non))
theorem fr_f_X9_cutNumber {S0 : xS} (N : Nat) (x1 : Int32) (S : xS) (hS : Rcl S0 S) : KFo Rcl S0 (f_X9_cutNumber N x1 S) := by
  unfold f_X9_cutNumber
  exact (fr_f_X9_cutNumber_5 _ _ _ _ _ hS)
theorem fr_f_X9_cutSign_95 {S0 : xS} (N : Nat) (x1 : Int32) (s0 : Int32) (s1 : Int32) (S : xS) (hS : Rcl S0 S) : KFo Rcl S0 (f_X9_cutSign_95 N x1 s0 s1 S) := by
  unfold f_X9_cutSign_95
  exact (K_xin (fun _ => (K_ret (Rcl_I hS (by omega)))) K_non)
theorem fr_f_X9_cutSign_38 {S0 : xS} (N : Nat) (x1 : Int32) (s0 : Int32) (S : xS) (hS : Rcl S0 S) : KFo Rcl S0 (f_X9_cutSign_38 N x1 s0 S) := by
  unfold f_X9_cutSign_38
  exact (K_ite (K_xin (fun _ => (K_xcI (fr_f_J0_indexOf_0f7a4 _ _ _ _ hS) (fun v31 S30 hS30 => (K_ite (fr_f_X9_cutSign_95 _ _ _ _ _ hS30) (fr_f_X9_cutSign_95 _ _ _ _ _ hS30))))) K_non) (K_xin (fun _ => (K_ret (Rcl_I hS (by omega)))) K_non))
theorem fr_f_X9_cutSign_37 {S0 : xS} (N : Nat) (x1 : Int32) (S : xS) (hS : Rcl S0 S) : KFo Rcl S0 (f_X9_cutSign_37 N x1 S) := by
  unfold f_X9_cutSign_37
  exact (fr_f_X9_cutSign_38 _ _ _ _ hS)
theorem fr_f_X9_cutSign {S0 : xS} (N : Nat) (x1 : Int32) (S : xS) (hS : Rcl S0 S) : KFo Rcl S0 (f_X9_cutSign N x1 S) := by
  unfold f_X9_cutSign
  exact (K_ite (fr_f_X9_cutSign_37 _ _ _ hS) (K_xin (fun _ => (K_ite (K_xin (fun _ => (K_xcI (fr_f_J0_indexOf_0f7a4 _ _ _ _ hS) (fun v39 S38 hS38 => (fr_f_X9_cutSign_38 _ _ _ _ hS38)))) K_non) (fr_f_X9_cutSign_37 _ _ _ hS))) K_non))
theorem fr_f_X9_cut {S0 : xS} (N : Nat) (x1 : Int32) (S : xS) (hS : Rcl S0 S) : KFo Rcl S0 (f_X9_cut N x1 S) := by
  unfold f_X9_cut
  exact (K_xin (fun _ => (K_xcI (fr_f_X9_isLetter _ _ _ hS) (fun v16 S15 hS15 => (K_ite (K_xcI (fr_f_X9_isDigit _ _ _ hS15) (fun v19 S18 hS18 => (K_ite (K_xcI (fr_f_X9_cutSign _ _ _ hS18) (fun v22 S21 hS21 => (K_ret hS21))) (K_xcI (fr_f_X9_cutNumber _ _ _ hS18) (fun v24 S23 hS23 => (K_ret hS23)))))) (K_xcI (fr_f_X9_cutName _ _ _ hS15) (fun v26 S25 hS25 => (K_ret hS25))))))) K_non)
theorem fr_f_X9_scan_99 {S0 : xS} (N : Nat) (s0 : Int32) (s1 : Int32) (S : xS) (hS : Rcl S0 S) : KFo Rcl S0 (f_X9_scan_99 N s0 s1 S) := by
  unfold f_X9_scan_99
  exact (K_xin (fun _ => (K_ret (Rcl_I hS (by omega)))) K_non)
theorem fr_f_X9_scan_67 {S0 : xS} (N : Nat) (x1 : Int32) (S : xS) (hS : Rcl S0 S) : KFo Rcl S0 (f_X9_scan_67 N x1 S) := by
  unfold f_X9_scan_67
  exact (K_xin (fun _ => (K_ite (fr_f_X9_scan_99 _ _ _ _ (Rcl_I hS (by omega))) (fr_f_X9_scan_99 _ _ _ _ (Rcl_I hS (by omega))))) K_non)
theorem fr_f_X9_scan_16 {S0 : xS} (N : Nat) : ∀ (n : Nat) (x1 : Int32) (S : xS), Rcl S0 S → KFo Rcl S0 (f_X9_scan_16 N n x1 S) := by
  intro n
  induction n with
  | zero => intro x1 S _; exact K_non
  | succ n ih =>
    intro x1 S hS
    rw [f_X9_scan_16.eq_2]
    exact (K_ite (fr_f_X9_scan_67 _ _ _ hS) (K_ite (fr_f_X9_scan_67 _ _ _ hS) (K_xin (fun _ => (K_xcI (fr_f_X9_cut _ _ _ (Rcl_I hS (by omega))) (fun v32 S31 hS31 => (K_xcI (fr_f_X9_behindBlanks _ _ _ hS31) (fun v34 S33 hS33 => (ih _ _ (Rcl_I hS33 (by omega)))))))) K_non)))
theorem fr_f_X9_scan {S0 : xS} (N : Nat) (S : xS) (hS : Rcl S0 S) : KFo Rcl S0 (f_X9_scan N S) := by
  unfold f_X9_scan
  exact (K_xcI (fr_f_X9_behindBlanks _ _ _ (Rcl_I hS (by omega))) (fun v36 S35 hS35 => (fr_f_X9_scan_16 _ _ _ _ (Rcl_I hS35 (by omega)))))
