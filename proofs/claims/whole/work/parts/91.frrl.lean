/-! frames: rl -/
theorem fr_f_X12_letter_17 {S0 : xS} (N : Nat) (s0 : Int32) (S : xS) (hS : Rrl S0 S) : KFo Rrl S0 (f_X12_letter_17 N s0 S) := by
  unfold f_X12_letter_17
  exact (K_ite (K_ret hS) K_non)
theorem fr_f_X12_letter_16 {S0 : xS} (N : Nat) (S : xS) (hS : Rrl S0 S) : KFo Rrl S0 (f_X12_letter_16 N S) := by
  unfold f_X12_letter_16
  exact (fr_f_X12_letter_17 _ _ _ hS)
theorem fr_f_X12_letter {S0 : xS} (N : Nat) (x0 : Int32) (S : xS) (hS : Rrl S0 S) : KFo Rrl S0 (f_X12_letter N x0 S) := by
  unfold f_X12_letter
  exact (K_ite (fr_f_X12_letter_16 _ _ hS) (K_ite (fr_f_X12_letter_16 _ _ hS) (fr_f_X12_letter_17 _ _ _ hS)))
theorem fr_f_X12_digit_17 {S0 : xS} (N : Nat) (s0 : Int32) (S : xS) (hS : Rrl S0 S) : KFo Rrl S0 (f_X12_digit_17 N s0 S) := by
  unfold f_X12_digit_17
  exact (K_ite (K_ret hS) K_non)
theorem fr_f_X12_digit_16 {S0 : xS} (N : Nat) (S : xS) (hS : Rrl S0 S) : KFo Rrl S0 (f_X12_digit_16 N S) := by
  unfold f_X12_digit_16
  exact (fr_f_X12_digit_17 _ _ _ hS)
theorem fr_f_X12_digit {S0 : xS} (N : Nat) (x0 : Int32) (S : xS) (hS : Rrl S0 S) : KFo Rrl S0 (f_X12_digit N x0 S) := by
  unfold f_X12_digit
  exact (K_ite (fr_f_X12_digit_16 _ _ hS) (K_ite (fr_f_X12_digit_16 _ _ hS) (fr_f_X12_digit_17 _ _ _ hS)))
theorem fr_f_X12_byteAt_18 {S0 : xS} (N : Nat) (s0 : Int32) (S : xS) (hS : Rrl S0 S) : KFo Rrl S0 (f_X12_byteAt_18 N s0 S) := by
  unfold f_X12_byteAt_18
  exact (K_ret hS)
theorem fr_f_X12_byteAt {S0 : xS} (N : Nat) (x1 : Int32) (S : xS) (hS : Rrl S0 S) : KFo Rrl S0 (f_X12_byteAt N x1 S) := by
  unfold f_X12_byteAt
  exact (K_ite (fr_f_X12_byteAt_18 _ _ _ hS) (K_xin (fun _ => (fr_f_X12_byteAt_18 _ _ _ hS)) K_non))
theorem fr_f_X12_token_446 {S0 : xS} (N : Nat) (s0 : Int32) (S : xS) (hS : Rrl S0 S) : KFo Rrl S0 (f_X12_token_446 N s0 S) := by
  unfold f_X12_token_446
  exact (K_ret hS)
theorem fr_f_X12_token_421 {S0 : xS} (N : Nat) (x1 : Int32) (x6 : Int32) (s0 : Int32) (S : xS) (hS : Rrl S0 S) : KFo Rrl S0 (f_X12_token_421 N x1 x6 s0 S) := by
  unfold f_X12_token_421
  exact (K_ite (K_ite (fr_f_X12_token_446 _ _ _ hS) (fr_f_X12_token_446 _ _ _ hS)) (fr_f_X12_token_446 _ _ _ hS))
theorem fr_f_X12_token_416 {S0 : xS} (N : Nat) (x1 : Int32) (x6 : Int32) (S : xS) (hS : Rrl S0 S) : KFo Rrl S0 (f_X12_token_416 N x1 x6 S) := by
  unfold f_X12_token_416
  exact (fr_f_X12_token_421 _ _ _ _ _ hS)
theorem fr_f_X12_token_319 {S0 : xS} (N : Nat) (x1 : Int32) (x2 : Int32) (x6 : Int32) (sy0 : Int64) (s1 : Int32) (S : xS) (hS : Rrl S0 S) : KFo Rrl S0 (f_X12_token_319 N x1 x2 x6 sy0 s1 S) := by
  unfold f_X12_token_319
  exact (K_xin (fun _ => (K_ite (fr_f_X12_token_416 _ _ _ _ (Rrl_J hS (by omega))) (K_ite (fr_f_X12_token_416 _ _ _ _ (Rrl_J hS (by omega))) (K_ite (fr_f_X12_token_416 _ _ _ _ (Rrl_J hS (by omega))) (K_ite (fr_f_X12_token_416 _ _ _ _ (Rrl_J hS (by omega))) (K_ite (fr_f_X12_token_416 _ _ _ _ (Rrl_J hS (by omega))) (K_ite (fr_f_X12_token_416 _ _ _ _ (Rrl_J hS (by omega))) (K_ite (fr_f_X12_token_416 _ _ _ _ (Rrl_J hS (by omega))) (K_ite (fr_f_X12_token_416 _ _ _ _ (Rrl_J hS (by omega))) (K_ite (fr_f_X12_token_416 _ _ _ _ (Rrl_J hS (by omega))) (K_ite (fr_f_X12_token_416 _ _ _ _ (Rrl_J hS (by omega))) (K_ite (fr_f_X12_token_416 _ _ _ _ (Rrl_J hS (by omega))) (K_ite (fr_f_X12_token_416 _ _ _ _ (Rrl_J hS (by omega))) (K_ite (fr_f_X12_token_416 _ _ _ _ (Rrl_J hS (by omega))) (K_ite (fr_f_X12_token_416 _ _ _ _ (Rrl_J hS (by omega))) (K_ite (fr_f_X12_token_416 _ _ _ _ (Rrl_J hS (by omega))) (K_ite (fr_f_X12_token_416 _ _ _ _ (Rrl_J hS (by omega))) (fr_f_X12_token_421 _ _ _ _ _ (Rrl_J hS (by omega)))))))))))))))))))) K_non)
theorem fr_f_X12_token_293 {S0 : xS} (N : Nat) (x1 : Int32) (x2 : Int32) (s0 : Int32) (S : xS) (hS : Rrl S0 S) : KFo Rrl S0 (f_X12_token_293 N x1 x2 s0 S) := by
  unfold f_X12_token_293
  exact (K_ite (fr_f_X12_token_319 _ _ _ _ _ _ _ hS) (fr_f_X12_token_319 _ _ _ _ _ _ _ hS))
theorem fr_f_X12_token_292 {S0 : xS} (N : Nat) (x1 : Int32) (x2 : Int32) (S : xS) (hS : Rrl S0 S) : KFo Rrl S0 (f_X12_token_292 N x1 x2 S) := by
  unfold f_X12_token_292
  exact (fr_f_X12_token_293 _ _ _ _ _ hS)
theorem fr_f_X12_token_288 {S0 : xS} (N : Nat) (x1 : Int32) (x2 : Int32) (S : xS) (hS : Rrl S0 S) : KFo Rrl S0 (f_X12_token_288 N x1 x2 S) := by
  unfold f_X12_token_288
  exact (fr_f_X12_token_293 _ _ _ _ _ hS)
theorem fr_f_X12_token_247 {S0 : xS} (N : Nat) (s0 : Int32) (S : xS) (hS : Rrl S0 S) : KFo Rrl S0 (f_X12_token_247 N s0 S) := by
  unfold f_X12_token_247
  exact (K_ret hS)
theorem fr_f_X12_token_204 {S0 : xS} (N : Nat) (k162 : Int32 → Int64 → xS → Option xr) (hk162 : ∀ (z0 : Int32) (z1 : Int64) (z2 : xS), Rrl S0 z2 → KFo Rrl S0 (k162 z0 z1 z2)) (x3 : Int32) (sy0 : Int64) (S : xS) (hS : Rrl S0 S) : KFo Rrl S0 (f_X12_token_204 N k162 x3 sy0 S) := by
  unfold f_X12_token_204
  exact (hk162 _ _ _ hS)
theorem fr_f_X12_token_162 {S0 : xS} (N : Nat) : ∀ (n : Nat) (x3 : Int32) (y4 : Int64) (S : xS), Rrl S0 S → KFo Rrl S0 (f_X12_token_162 N n x3 y4 S) := by
  intro n
  induction n with
  | zero => intro x3 y4 S _; exact K_non
  | succ n ih =>
    intro x3 y4 S hS
    rw [f_X12_token_162.eq_2]
    exact (K_xcI (fr_f_X12_byteAt _ _ _ hS) (fun v144 S143 hS143 => (K_xcI (fr_f_X12_digit _ _ _ hS143) (fun v146 S145 hS145 => (K_ite (K_xin (fun _ => (K_ite (fr_f_X12_token_247 _ _ _ (Rrl_J (Rrl_I hS145 (by omega)) (by omega))) (fr_f_X12_token_247 _ _ _ (Rrl_J (Rrl_I hS145 (by omega)) (by omega))))) K_non) (K_ite (K_xcI (fr_f_X12_byteAt _ _ _ hS145) (fun v152 S151 hS151 => (fr_f_X12_token_204 _ _ (fun z0 z1 z2 hh => ih z0 z1 z2 hh) _ _ _ hS151))) (fr_f_X12_token_204 _ _ (fun z0 z1 z2 hh => ih z0 z1 z2 hh) _ _ _ hS145)))))))
theorem fr_f_X12_token_154 {S0 : xS} (N : Nat) (s0 : Int32) (S : xS) (hS : Rrl S0 S) : KFo Rrl S0 (f_X12_token_154 N s0 S) := by
  unfold f_X12_token_154
  exact (K_ret hS)
theorem fr_f_X12_token_124 {S0 : xS} (N : Nat) (k85 : Int32 → Int32 → Int64 → Int32 → xS → Option xr) (hk85 : ∀ (z0 : Int32) (z1 : Int32) (z2 : Int64) (z3 : Int32) (z4 : xS), Rrl S0 z4 → KFo Rrl S0 (k85 z0 z1 z2 z3 z4)) (x1 : Int32) (x3 : Int32) (y4 : Int64) (x6 : Int32) (S : xS) (hS : Rrl S0 S) : KFo Rrl S0 (f_X12_token_124 N k85 x1 x3 y4 x6 S) := by
  unfold f_X12_token_124
  exact (hk85 _ _ _ _ _ hS)
theorem fr_f_X12_token_85 {S0 : xS} (N : Nat) : ∀ (n : Nat) (x1 : Int32) (x3 : Int32) (y4 : Int64) (x6 : Int32) (S : xS), Rrl S0 S → KFo Rrl S0 (f_X12_token_85 N n x1 x3 y4 x6 S) := by
  intro n
  induction n with
  | zero => intro x1 x3 y4 x6 S _; exact K_non
  | succ n ih =>
    intro x1 x3 y4 x6 S hS
    rw [f_X12_token_85.eq_2]
    exact (K_ite (K_xin (fun _ => (K_ite (fr_f_X12_token_154 _ _ _ (Rrl_J hS (by omega))) (fr_f_X12_token_154 _ _ _ (Rrl_J hS (by omega))))) K_non) (K_xin (fun _ => (K_ite (K_xin (fun _ => (fr_f_X12_token_124 _ _ (fun z0 z1 z2 z3 z4 hh => ih z0 z1 z2 z3 z4 hh) _ _ _ _ _ (Rrl_I hS (by omega)))) K_non) (fr_f_X12_token_124 _ _ (fun z0 z1 z2 z3 z4 hh => ih z0 z1 z2 z3 z4 hh) _ _ _ _ _ hS))) K_non))
theorem fr_f_X12_token_66 {S0 : xS} (N : Nat) (k28 : Int32 → Int32 → Int64 → xS → Option xr) (hk28 : ∀ (z0 : Int32) (z1 : Int32) (z2 : Int64) (z3 : xS), Rrl S0 z3 → KFo Rrl S0 (k28 z0 z1 z2 z3)) (x1 : Int32) (x3 : Int32) (y4 : Int64) (S : xS) (hS : Rrl S0 S) : KFo Rrl S0 (f_X12_token_66 N k28 x1 x3 y4 S) := by
  unfold f_X12_token_66
  exact (hk28 _ _ _ _ hS)
theorem fr_f_X12_token_28 {S0 : xS} (N : Nat) : ∀ (n : Nat) (x1 : Int32) (x3 : Int32) (y4 : Int64) (S : xS), Rrl S0 S → KFo Rrl S0 (f_X12_token_28 N n x1 x3 y4 S) := by
  intro n
  induction n with
  | zero => intro x1 x3 y4 S _; exact K_non
  | succ n ih =>
    intro x1 x3 y4 S hS
    rw [f_X12_token_28.eq_2]
    exact (K_xcI (fr_f_X12_byteAt _ _ _ hS) (fun v160 S159 hS159 => (K_xcI (fr_f_X12_letter _ _ _ hS159) (fun v162 S161 hS161 => (K_ite (K_xin (fun _ => (fr_f_X12_token_85 _ _ _ _ _ _ _ (Rrl_I hS161 (by omega)))) K_non) (K_ite (fr_f_X12_token_66 _ _ (fun z0 z1 z2 z3 hh => ih z0 z1 z2 z3 hh) _ _ _ _ hS161) (K_xcI (fr_f_X12_byteAt _ _ _ hS161) (fun v167 S166 hS166 => (fr_f_X12_token_66 _ _ (fun z0 z1 z2 z3 hh => ih z0 z1 z2 z3 hh) _ _ _ _ hS166)))))))))
theorem fr_f_X12_token {S0 : xS} (N : Nat) (x1 : Int32) (S : xS) (hS : Rrl S0 S) : KFo Rrl S0 (f_X12_token N x1 S) := by
  unfold f_X12_token
  exact (K_xcI (fr_f_X12_byteAt _ _ _ hS) (fun v169 S168 hS168 => (K_xin (fun _ => (K_xcI (fr_f_X12_letter _ _ _ (Rrl_I hS168 (by omega))) (fun v172 S171 hS171 => (K_ite (K_xcI (fr_f_X12_digit _ _ _ hS171) (fun v175 S174 hS174 => (K_ite (K_xin (fun _ => (K_xcI (fr_f_X12_byteAt _ _ _ (Rrl_I hS174 (by omega))) (fun v179 S178 hS178 => (K_ite (K_ite (fr_f_X12_token_288 _ _ _ _ hS178) (K_ite (fr_f_X12_token_288 _ _ _ _ hS178) (K_ite (fr_f_X12_token_288 _ _ _ _ hS178) (fr_f_X12_token_292 _ _ _ _ hS178)))) (fr_f_X12_token_292 _ _ _ _ hS178))))) K_non) (fr_f_X12_token_162 _ _ _ _ _ hS174)))) (fr_f_X12_token_28 _ _ _ _ _ _ hS171))))) K_non)))
theorem fr_f_X12_scan_31 {S0 : xS} (N : Nat) (k7 : Int32 → xS → Option xr) (hk7 : ∀ (z0 : Int32) (z1 : xS), Rrl S0 z1 → KFo Rrl S0 (k7 z0 z1)) (k11 : Int32 → xS → Option xr) (hk11 : ∀ (z0 : Int32) (z1 : xS), Rrl S0 z1 → KFo Rrl S0 (k11 z0 z1)) (x1 : Int32) (S : xS) (hS : Rrl S0 S) : KFo Rrl S0 (f_X12_scan_31 N k7 k11 x1 S) := by
  unfold f_X12_scan_31
  exact (hk11 _ _ hS)
theorem fr_f_X12_scan_11 {S0 : xS} (N : Nat) (k7 : Int32 → xS → Option xr) (hk7 : ∀ (z0 : Int32) (z1 : xS), Rrl S0 z1 → KFo Rrl S0 (k7 z0 z1)) : ∀ (n : Nat) (x1 : Int32) (S : xS), Rrl S0 S → KFo Rrl S0 (f_X12_scan_11 N k7 n x1 S) := by
  intro n
  induction n with
  | zero => intro x1 S _; exact K_non
  | succ n ih =>
    intro x1 S hS
    rw [f_X12_scan_11.eq_2]
    exact (K_xcI (fr_f_X12_byteAt _ _ _ hS) (fun v30 S29 hS29 => (K_ite (fr_f_X12_scan_31 _ _ hk7 _ (fun z0 z1 hh => ih z0 z1 hh) _ _ hS29) (K_xcI (fr_f_X12_byteAt _ _ _ hS29) (fun v33 S32 hS32 => (K_ite (fr_f_X12_scan_31 _ _ hk7 _ (fun z0 z1 hh => ih z0 z1 hh) _ _ hS32) (K_xin (fun _ => (K_ite (K_ret (Rrl_I (Rrl_I hS32 (by omega)) (by omega))) (K_ite (K_ret (Rrl_I (Rrl_I hS32 (by omega)) (by omega))) (K_xcI (fr_f_X12_token _ _ _ (Rrl_I hS32 (by omega))) (fun v39 S38 hS38 => (K_ite (hk7 _ _ (Rrl_I hS38 (by omega))) (K_xin (fun _ => (hk7 _ _ (Rrl_I hS38 (by omega)))) K_non))))))) K_non)))))))
theorem fr_f_X12_scan_7 {S0 : xS} (N : Nat) : ∀ (n : Nat) (x1 : Int32) (S : xS), Rrl S0 S → KFo Rrl S0 (f_X12_scan_7 N n x1 S) := by
  intro n
  induction n with
  | zero => intro x1 S _; exact K_non
  | succ n ih =>
    intro x1 S hS
    rw [f_X12_scan_7.eq_2]
    exact (K_ite (K_ret hS) (fr_f_X12_scan_11 _ _ (fun z0 z1 hh => ih z0 z1 hh) _ _ _ hS))
theorem fr_f_X12_scan {S0 : xS} (N : Nat) (S : xS) (hS : Rrl S0 S) : KFo Rrl S0 (f_X12_scan N S) := by
  unfold f_X12_scan
  exact (fr_f_X12_scan_7 _ _ _ _ (Rrl_I hS (by omega)))
theorem fr_f_X12_wrong_40 {S0 : xS} (N : Nat) (S : xS) (hS : Rrl S0 S) : KFo Rrl S0 (f_X12_wrong_40 N S) := by
  unfold f_X12_wrong_40
  exact (K_ret hS)
theorem fr_f_X12_wrong_37 {S0 : xS} (N : Nat) (s0 : Int32) (S : xS) (hS : Rrl S0 S) : KFo Rrl S0 (f_X12_wrong_37 N s0 S) := by
  unfold f_X12_wrong_37
  exact (fr_f_X12_wrong_40 _ _ (Rrl_I hS (by omega)))
theorem fr_f_X12_wrong {S0 : xS} (N : Nat) (S : xS) (hS : Rrl S0 S) : KFo Rrl S0 (f_X12_wrong N S) := by
  unfold f_X12_wrong
  exact (K_ite (fr_f_X12_wrong_40 _ _ hS) (K_xin (fun _ => (K_ite (fr_f_X12_wrong_37 _ _ _ hS) (fr_f_X12_wrong_37 _ _ _ hS))) K_non))
theorem fr_f_X12_isSign_33 {S0 : xS} (N : Nat) (s0 : Int32) (S : xS) (hS : Rrl S0 S) : KFo Rrl S0 (f_X12_isSign_33 N s0 S) := by
  unfold f_X12_isSign_33
  exact (K_ite (K_ret hS) K_non)
theorem fr_f_X12_isSign_32 {S0 : xS} (N : Nat) (S : xS) (hS : Rrl S0 S) : KFo Rrl S0 (f_X12_isSign_32 N S) := by
  unfold f_X12_isSign_32
  exact (fr_f_X12_isSign_33 _ _ _ hS)
theorem fr_f_X12_isSign {S0 : xS} (N : Nat) (x1 : Int32) (S : xS) (hS : Rrl S0 S) : KFo Rrl S0 (f_X12_isSign N x1 S) := by
  unfold f_X12_isSign
  exact (K_xin (fun _ => (K_ite (K_ite (fr_f_X12_isSign_33 _ _ _ hS) (fr_f_X12_isSign_32 _ _ hS)) (fr_f_X12_isSign_32 _ _ hS))) K_non)
theorem fr_f_X12_isWord_33 {S0 : xS} (N : Nat) (s0 : Int32) (S : xS) (hS : Rrl S0 S) : KFo Rrl S0 (f_X12_isWord_33 N s0 S) := by
  unfold f_X12_isWord_33
  exact (K_ite (K_ret hS) K_non)
theorem fr_f_X12_isWord_32 {S0 : xS} (N : Nat) (S : xS) (hS : Rrl S0 S) : KFo Rrl S0 (f_X12_isWord_32 N S) := by
  unfold f_X12_isWord_32
  exact (fr_f_X12_isWord_33 _ _ _ hS)
theorem fr_f_X12_isWord {S0 : xS} (N : Nat) (x1 : Int32) (S : xS) (hS : Rrl S0 S) : KFo Rrl S0 (f_X12_isWord N x1 S) := by
  unfold f_X12_isWord
  exact (K_xin (fun _ => (K_ite (K_ite (fr_f_X12_isWord_33 _ _ _ hS) (fr_f_X12_isWord_32 _ _ hS)) (fr_f_X12_isWord_32 _ _ hS))) K_non)
theorem fr_f_X12_sign {S0 : xS} (N : Nat) (x1 : Int32) (S : xS) (hS : Rrl S0 S) : KFo Rrl S0 (f_X12_sign N x1 S) := by
  unfold f_X12_sign
  exact (K_xcI (fr_f_X12_isSign _ _ _ hS) (fun v8 S7 hS7 => (K_ite (K_xcI (fr_f_X12_wrong _ _ hS7) (fun v11 S10 hS10 => (K_ite (K_ret hS10) K_non))) (K_ret (Rrl_I hS7 (by omega))))))
theorem fr_f_X12_keyword {S0 : xS} (N : Nat) (x1 : Int32) (S : xS) (hS : Rrl S0 S) : KFo Rrl S0 (f_X12_keyword N x1 S) := by
  unfold f_X12_keyword
  exact (K_xcI (fr_f_X12_isWord _ _ _ hS) (fun v8 S7 hS7 => (K_ite (K_xcI (fr_f_X12_wrong _ _ hS7) (fun v11 S10 hS10 => (K_ite (K_ret hS10) K_non))) (K_ret (Rrl_I hS7 (by omega))))))
theorem fr_f_X12_kindOf_2 {S0 : xS} (N : Nat) : ∀ (n : Nat) (y1 : Int64) (x3 : Int32) (S : xS), Rrl S0 S → KFo Rrl S0 (f_X12_kindOf_2 N n y1 x3 S) := by
  intro n
  induction n with
  | zero => intro y1 x3 S _; exact K_non
  | succ n ih =>
    intro y1 x3 S hS
    rw [f_X12_kindOf_2.eq_2]
    exact (K_ite (K_ret hS) (K_xin (fun _ => (K_ite (K_ret hS) (ih _ _ _ hS))) K_non))
theorem fr_f_X12_kindOf {S0 : xS} (N : Nat) (y1 : Int64) (S : xS) (hS : Rrl S0 S) : KFo Rrl S0 (f_X12_kindOf N y1 S) := by
  unfold f_X12_kindOf
  exact (fr_f_X12_kindOf_2 _ _ _ _ _ hS)
theorem fr_f_X12_varOf_2 {S0 : xS} (N : Nat) : ∀ (n : Nat) (y1 : Int64) (x3 : Int32) (S : xS), Rrl S0 S → KFo Rrl S0 (f_X12_varOf_2 N n y1 x3 S) := by
  intro n
  induction n with
  | zero => intro y1 x3 S _; exact K_non
  | succ n ih =>
    intro y1 x3 S hS
    rw [f_X12_varOf_2.eq_2]
    exact (K_ite (K_ret hS) (K_xin (fun _ => (K_ite (K_ret hS) (ih _ _ _ hS))) K_non))
theorem fr_f_X12_varOf {S0 : xS} (N : Nat) (y1 : Int64) (S : xS) (hS : Rrl S0 S) : KFo Rrl S0 (f_X12_varOf N y1 S) := by
  unfold f_X12_varOf
  exact (fr_f_X12_varOf_2 _ _ _ _ _ hS)
theorem fr_f_X12_fieldOf_3 {S0 : xS} (N : Nat) : ∀ (n : Nat) (x1 : Int32) (y2 : Int64) (x4 : Int32) (S : xS), Rrl S0 S → KFo Rrl S0 (f_X12_fieldOf_3 N n x1 y2 x4 S) := by
  intro n
  induction n with
  | zero => intro x1 y2 x4 S _; exact K_non
  | succ n ih =>
    intro x1 y2 x4 S hS
    rw [f_X12_fieldOf_3.eq_2]
    exact (K_xin (fun _ => (K_ite (K_ret hS) (K_xin (fun _ => (K_ite (K_ret hS) (ih _ _ _ _ hS))) K_non))) K_non)
theorem fr_f_X12_fieldOf {S0 : xS} (N : Nat) (x1 : Int32) (y2 : Int64) (S : xS) (hS : Rrl S0 S) : KFo Rrl S0 (f_X12_fieldOf N x1 y2 S) := by
  unfold f_X12_fieldOf
  exact (fr_f_X12_fieldOf_3 _ _ _ _ _ _ hS)
theorem fr_f_X12_takeKind_53 {S0 : xS} (N : Nat) (x1 : Int32) (S : xS) (hS : Rrl S0 S) : KFo Rrl S0 (f_X12_takeKind_53 N x1 S) := by
  unfold f_X12_takeKind_53
  exact (K_ret hS)
theorem fr_f_X12_takeKind_30 {S0 : xS} (N : Nat) (s0 : Int32) (S : xS) (hS : Rrl S0 S) : KFo Rrl S0 (f_X12_takeKind_30 N s0 S) := by
  unfold f_X12_takeKind_30
  exact (K_ite (fr_f_X12_takeKind_53 _ _ _ (Rrl_I hS (by omega))) (K_xcI (fr_f_X12_wrong _ _ hS) (fun v17 S16 hS16 => (fr_f_X12_takeKind_53 _ _ _ hS16))))
theorem fr_f_X12_takeKind {S0 : xS} (N : Nat) (S : xS) (hS : Rrl S0 S) : KFo Rrl S0 (f_X12_takeKind N S) := by
  unfold f_X12_takeKind
  exact (K_xin (fun _ => (K_ite (K_xcI (fr_f_X12_kindOf _ _ _ hS) (fun v21 S20 hS20 => (fr_f_X12_takeKind_30 _ _ _ hS20))) (fr_f_X12_takeKind_30 _ _ _ hS))) K_non)
theorem fr_f_X12_takeField_54 {S0 : xS} (N : Nat) (x2 : Int32) (S : xS) (hS : Rrl S0 S) : KFo Rrl S0 (f_X12_takeField_54 N x2 S) := by
  unfold f_X12_takeField_54
  exact (K_ret hS)
theorem fr_f_X12_takeField_31 {S0 : xS} (N : Nat) (s0 : Int32) (S : xS) (hS : Rrl S0 S) : KFo Rrl S0 (f_X12_takeField_31 N s0 S) := by
  unfold f_X12_takeField_31
  exact (K_ite (fr_f_X12_takeField_54 _ _ _ (Rrl_I hS (by omega))) (K_xcI (fr_f_X12_wrong _ _ hS) (fun v17 S16 hS16 => (fr_f_X12_takeField_54 _ _ _ hS16))))
theorem fr_f_X12_takeField {S0 : xS} (N : Nat) (x1 : Int32) (S : xS) (hS : Rrl S0 S) : KFo Rrl S0 (f_X12_takeField N x1 S) := by
  unfold f_X12_takeField
  exact (K_xin (fun _ => (K_ite (K_xcI (fr_f_X12_fieldOf _ _ _ _ hS) (fun v21 S20 hS20 => (fr_f_X12_takeField_31 _ _ _ hS20))) (fr_f_X12_takeField_31 _ _ _ hS))) K_non)
theorem fr_f_X12_takeVariable_71 {S0 : xS} (N : Nat) (x1 : Int32) (S : xS) (hS : Rrl S0 S) : KFo Rrl S0 (f_X12_takeVariable_71 N x1 S) := by
  unfold f_X12_takeVariable_71
  exact (K_ret (Rrl_I hS (by omega)))
theorem fr_f_X12_takeVariable {S0 : xS} (N : Nat) (S : xS) (hS : Rrl S0 S) : KFo Rrl S0 (f_X12_takeVariable N S) := by
  unfold f_X12_takeVariable
  refine K_xin (fun _ => K_xcI (fr_f_X12_varOf _ _ _ hS) (fun v21 S20 hS20 => K_ite (fr_f_X12_takeVariable_71 _ _ _ hS20) (K_ite (K_xcI (fr_f_X12_wrong _ _ hS20) (fun v25 S24 hS24 => K_ret hS24)) (K_xin (fun _ => K_if (fun hx => fr_f_X12_takeVariable_71 _ _ _ ?_) K_non) K_non)))) K_non
  exact Rrl_v hS20 hx
theorem fr_f_X12_levelOf_43 {S0 : xS} (N : Nat) (k7 : Int32 → Int32 → Int32 → Int32 → xS → Option xr) (hk7 : ∀ (z0 : Int32) (z1 : Int32) (z2 : Int32) (z3 : Int32) (z4 : xS), Rrl S0 z4 → KFo Rrl S0 (k7 z0 z1 z2 z3 z4)) (x1 : Int32) (x2 : Int32) (x3 : Int32) (x4 : Int32) (S : xS) (hS : Rrl S0 S) : KFo Rrl S0 (f_X12_levelOf_43 N k7 x1 x2 x3 x4 S) := by
  unfold f_X12_levelOf_43
  exact (hk7 _ _ _ _ _ hS)
theorem fr_f_X12_levelOf_40 {S0 : xS} (N : Nat) (k7 : Int32 → Int32 → Int32 → Int32 → xS → Option xr) (hk7 : ∀ (z0 : Int32) (z1 : Int32) (z2 : Int32) (z3 : Int32) (z4 : xS), Rrl S0 z4 → KFo Rrl S0 (k7 z0 z1 z2 z3 z4)) (x1 : Int32) (x2 : Int32) (x3 : Int32) (x4 : Int32) (S : xS) (hS : Rrl S0 S) : KFo Rrl S0 (f_X12_levelOf_40 N k7 x1 x2 x3 x4 S) := by
  unfold f_X12_levelOf_40
  exact (fr_f_X12_levelOf_43 _ _ hk7 _ _ _ _ _ hS)
theorem fr_f_X12_levelOf_7 {S0 : xS} (N : Nat) : ∀ (n : Nat) (x1 : Int32) (x2 : Int32) (x3 : Int32) (x4 : Int32) (S : xS), Rrl S0 S → KFo Rrl S0 (f_X12_levelOf_7 N n x1 x2 x3 x4 S) := by
  intro n
  induction n with
  | zero => intro x1 x2 x3 x4 S _; exact K_non
  | succ n ih =>
    intro x1 x2 x3 x4 S hS
    rw [f_X12_levelOf_7.eq_2]
    exact (K_ite (K_ret hS) (K_xin (fun _ => (K_ite (K_ite (fr_f_X12_levelOf_40 _ _ (fun z0 z1 z2 z3 z4 hh => ih z0 z1 z2 z3 z4 hh) _ _ _ _ _ hS) (fr_f_X12_levelOf_40 _ _ (fun z0 z1 z2 z3 z4 hh => ih z0 z1 z2 z3 z4 hh) _ _ _ _ _ hS)) (fr_f_X12_levelOf_43 _ _ (fun z0 z1 z2 z3 z4 hh => ih z0 z1 z2 z3 z4 hh) _ _ _ _ _ hS))) K_non))
theorem fr_f_X12_levelOf {S0 : xS} (N : Nat) (x1 : Int32) (S : xS) (hS : Rrl S0 S) : KFo Rrl S0 (f_X12_levelOf N x1 S) := by
  unfold f_X12_levelOf
  exact (fr_f_X12_levelOf_7 _ _ _ _ _ _ _ hS)
theorem fr_f_X12_levels_28 {S0 : xS} (N : Nat) (k4 : Int32 → Int32 → xS → Option xr) (hk4 : ∀ (z0 : Int32) (z1 : Int32) (z2 : xS), Rrl S0 z2 → KFo Rrl S0 (k4 z0 z1 z2)) (x2 : Int32) (s0 : Int32) (s1 : Int32) (S : xS) (hS : Rrl S0 S) : KFo Rrl S0 (f_X12_levels_28 N k4 x2 s0 s1 S) := by
  unfold f_X12_levels_28
  exact (hk4 _ _ _ hS)
theorem fr_f_X12_levels_4 {S0 : xS} (N : Nat) : ∀ (n : Nat) (x1 : Int32) (x2 : Int32) (S : xS), Rrl S0 S → KFo Rrl S0 (f_X12_levels_4 N n x1 x2 S) := by
  intro n
  induction n with
  | zero => intro x1 x2 S _; exact K_non
  | succ n ih =>
    intro x1 x2 S hS
    rw [f_X12_levels_4.eq_2]
    exact (K_ite (K_ret hS) (K_xin (fun _ => (K_ite (fr_f_X12_levels_28 _ _ (fun z0 z1 z2 hh => ih z0 z1 z2 hh) _ _ _ _ hS) (fr_f_X12_levels_28 _ _ (fun z0 z1 z2 hh => ih z0 z1 z2 hh) _ _ _ _ hS))) K_non))
theorem fr_f_X12_levels {S0 : xS} (N : Nat) (S : xS) (hS : Rrl S0 S) : KFo Rrl S0 (f_X12_levels N S) := by
  unfold f_X12_levels
  exact (fr_f_X12_levels_4 _ _ _ _ _ hS)
theorem fr_f_X12_emit {S0 : xS} (N : Nat) (x1 : Int32) (S : xS) (hS : Rrl S0 S) : KFo Rrl S0 (f_X12_emit N x1 S) := by
  unfold f_X12_emit
  exact (K_xin (fun _ => (K_ret (Rrl_I (Rrl_I hS (by omega)) (by omega)))) K_non)
theorem fr_f_X12_bracket_24 {S0 : xS} (N : Nat) (s0 : Int32) (S : xS) (hS : Rrl S0 S) : KFo Rrl S0 (f_X12_bracket_24 N s0 S) := by
  unfold f_X12_bracket_24
  exact (K_ite (K_ret hS) K_non)
theorem fr_f_X12_bracket {S0 : xS} (N : Nat) (S : xS) (hS : Rrl S0 S) : KFo Rrl S0 (f_X12_bracket N S) := by
  unfold f_X12_bracket
  exact (K_ite (fr_f_X12_bracket_24 _ _ _ (Rrl_I hS (by omega))) (fr_f_X12_bracket_24 _ _ _ (Rrl_I hS (by omega))))
theorem fr_f_X12_strength_84 {S0 : xS} (N : Nat) (s0 : Int32) (S : xS) (hS : Rrl S0 S) : KFo Rrl S0 (f_X12_strength_84 N s0 S) := by
  unfold f_X12_strength_84
  exact (K_ret hS)
theorem fr_f_X12_strength_58 {S0 : xS} (N : Nat) (S : xS) (hS : Rrl S0 S) : KFo Rrl S0 (f_X12_strength_58 N S) := by
  unfold f_X12_strength_58
  exact (fr_f_X12_strength_84 _ _ _ hS)
theorem fr_f_X12_strength_46 {S0 : xS} (N : Nat) (x0 : Int32) (S : xS) (hS : Rrl S0 S) : KFo Rrl S0 (f_X12_strength_46 N x0 S) := by
  unfold f_X12_strength_46
  exact (K_ite (fr_f_X12_strength_58 _ _ hS) (K_ite (fr_f_X12_strength_58 _ _ hS) (K_ite (K_ite (fr_f_X12_strength_84 _ _ _ hS) (fr_f_X12_strength_84 _ _ _ hS)) (fr_f_X12_strength_84 _ _ _ hS))))
theorem fr_f_X12_strength {S0 : xS} (N : Nat) (x0 : Int32) (S : xS) (hS : Rrl S0 S) : KFo Rrl S0 (f_X12_strength N x0 S) := by
  unfold f_X12_strength
  exact (K_ite (fr_f_X12_strength_84 _ _ _ hS) (K_ite (fr_f_X12_strength_84 _ _ _ hS) (K_ite (fr_f_X12_strength_84 _ _ _ hS) (K_ite (fr_f_X12_strength_46 _ _ _ hS) (K_ite (fr_f_X12_strength_46 _ _ _ hS) (fr_f_X12_strength_84 _ _ _ hS))))))
theorem fr_f_X12_operation_56 {S0 : xS} (N : Nat) (s0 : Int32) (S : xS) (hS : Rrl S0 S) : KFo Rrl S0 (f_X12_operation_56 N s0 S) := by
  unfold f_X12_operation_56
  exact (K_ret hS)
theorem fr_f_X12_operation {S0 : xS} (N : Nat) (S : xS) (hS : Rrl S0 S) : KFo Rrl S0 (f_X12_operation N S) := by
  unfold f_X12_operation
  exact (K_xin (fun _ => (K_ite (K_ite (fr_f_X12_operation_56 _ _ _ hS) (K_ite (fr_f_X12_operation_56 _ _ _ hS) (fr_f_X12_operation_56 _ _ _ hS))) (K_ite (K_ite (K_ret hS) (K_ite (K_ret hS) (K_ite (K_ret hS) (K_ite (K_ret hS) (K_ite (K_ret hS) (K_ite (K_ret hS) (K_ite (K_ret hS) (K_ite (K_ret hS) (K_ite (K_ret hS) (K_ite (K_ret hS) (K_ite (K_ret hS) (K_ret hS)))))))))))) (K_ret hS)))) K_non)
theorem fr_f_X12_push {S0 : xS} (N : Nat) (x1 : Int32) (S : xS) (hS : Rrl S0 S) : KFo Rrl S0 (f_X12_push N x1 S) := by
  unfold f_X12_push
  exact (K_xin (fun _ => (K_ret (Rrl_I (Rrl_I (Rrl_I hS (by omega)) (by omega)) (by omega)))) K_non)
theorem fr_f_X12_aggregate_40 {S0 : xS} (N : Nat) (S : xS) (hS : Rrl S0 S) : KFo Rrl S0 (f_X12_aggregate_40 N S) := by
  unfold f_X12_aggregate_40
  exact (K_xcI (fr_f_X12_wrong _ _ hS) (fun v88 S87 hS87 => (K_ite (K_ret hS87) K_non)))
theorem fr_f_X12_aggregate_95 {S0 : xS} (N : Nat) (x1 : Int32) (x2 : Int32) (x3 : Int32) (S : xS) (hS : Rrl S0 S) : KFo Rrl S0 (f_X12_aggregate_95 N x1 x2 x3 S) := by
  unfold f_X12_aggregate_95
  exact (K_xcV (fr_f_X12_emit _ _ _ hS) (fun S90 hS90 => (K_xcV (fr_f_X12_emit _ _ _ hS90) (fun S92 hS92 => (K_xcV (fr_f_X12_emit _ _ _ hS92) (fun S94 hS94 => (K_xcV (fr_f_X12_emit _ _ _ hS94) (fun S96 hS96 => (K_xcI (fr_f_X12_isWord _ _ _ hS96) (fun v99 S98 hS98 => (K_ite (K_xcV (fr_f_X12_emit _ _ _ hS98) (fun S101 hS101 => (K_xcV (fr_f_X12_emit _ _ _ hS101) (fun S103 hS103 => (K_xcV (fr_f_X12_emit _ _ _ hS103) (fun S105 hS105 => (K_xcI (fr_f_X12_sign _ _ _ (Rrl_I hS105 (by omega))) (fun v108 S107 hS107 => (K_ite (K_ret hS107) K_non))))))))) (K_xcI (fr_f_X12_push _ _ _ (Rrl_I hS98 (by omega))) (fun v111 S110 hS110 => (K_ite (K_ret hS110) K_non))))))))))))))
theorem fr_f_X12_aggregate {S0 : xS} (N : Nat) (S : xS) (hS : Rrl S0 S) : KFo Rrl S0 (f_X12_aggregate N S) := by
  unfold f_X12_aggregate
  exact (K_xin (fun _ => (K_xcI (fr_f_X12_isSign _ _ _ (Rrl_I hS (by omega))) (fun v115 S114 hS114 => (K_ite (fr_f_X12_aggregate_40 _ _ hS114) (K_xcI (fr_f_X12_bracket _ _ hS114) (fun v118 S117 hS117 => (K_ite (fr_f_X12_aggregate_40 _ _ hS117) (K_xcI (fr_f_X12_takeKind _ _ (Rrl_I hS117 (by omega))) (fun v121 S120 hS120 => (K_ite (K_ite (fr_f_X12_aggregate_95 _ _ _ _ _ hS120) (K_xcI (fr_f_X12_sign _ _ _ hS120) (fun v125 S124 hS124 => (K_ite (K_ret hS124) (K_xcI (fr_f_X12_takeField _ _ _ hS124) (fun v128 S127 hS127 => (K_ite (fr_f_X12_aggregate_95 _ _ _ _ _ hS127) (K_ret hS127)))))))) (K_ret hS120))))))))))) K_non)
theorem fr_f_X12_operand_391 {S0 : xS} (N : Nat) (s0 : Int32) (S : xS) (hS : Rrl S0 S) : KFo Rrl S0 (f_X12_operand_391 N s0 S) := by
  unfold f_X12_operand_391
  exact (K_ite (K_ret hS) K_non)
theorem fr_f_X12_operand_319 {S0 : xS} (N : Nat) (s0 : Int32) (S : xS) (hS : Rrl S0 S) : KFo Rrl S0 (f_X12_operand_319 N s0 S) := by
  unfold f_X12_operand_319
  exact (K_ite (K_ret hS) K_non)
theorem fr_f_X12_operand_274 {S0 : xS} (N : Nat) (S : xS) (hS : Rrl S0 S) : KFo Rrl S0 (f_X12_operand_274 N S) := by
  unfold f_X12_operand_274
  exact (K_xin (fun _ => (K_xcI (fr_f_X12_kindOf _ _ _ hS) (fun v195 S194 hS194 => (K_ite (K_xcI (fr_f_X12_levelOf _ _ _ hS194) (fun v198 S197 hS197 => (K_ite (K_xcI (fr_f_X12_sign _ _ _ (Rrl_I hS197 (by omega))) (fun v201 S200 hS200 => (K_ite (K_ret hS200) (K_xcI (fr_f_X12_takeField _ _ _ hS200) (fun v204 S203 hS203 => (K_xcV (fr_f_X12_emit _ _ _ hS203) (fun S205 hS205 => (K_xcI (fr_f_X12_levelOf _ _ _ hS205) (fun v208 S207 hS207 => (K_xcV (fr_f_X12_emit _ _ _ hS207) (fun S209 hS209 => (K_xcV (fr_f_X12_emit _ _ _ hS209) (fun S211 hS211 => (K_ite (fr_f_X12_operand_391 _ _ _ hS211) (fr_f_X12_operand_391 _ _ _ hS211))))))))))))))) (K_xcI (fr_f_X12_wrong _ _ hS197) (fun v215 S214 hS214 => (K_ite (K_ret hS214) K_non)))))) (K_xcI (fr_f_X12_takeVariable _ _ hS194) (fun v218 S217 hS217 => (K_xcV (fr_f_X12_emit _ _ _ hS217) (fun S219 hS219 => (K_xcV (fr_f_X12_emit _ _ _ hS219) (fun S221 hS221 => (K_ite (fr_f_X12_operand_319 _ _ _ hS221) (fr_f_X12_operand_319 _ _ _ hS221)))))))))))) K_non)
theorem fr_f_X12_operand_191 {S0 : xS} (N : Nat) (S : xS) (hS : Rrl S0 S) : KFo Rrl S0 (f_X12_operand_191 N S) := by
  unfold f_X12_operand_191
  exact (K_xin (fun _ => (K_ite (K_ite (fr_f_X12_operand_274 _ _ hS) (K_xcI (fr_f_X12_fieldOf _ _ _ _ hS) (fun v228 S227 hS227 => (K_ite (fr_f_X12_operand_274 _ _ hS227) (K_xcV (fr_f_X12_emit _ _ _ hS227) (fun S230 hS230 => (K_xin (fun _ => (K_xcI (fr_f_X12_fieldOf _ _ _ _ hS230) (fun v234 S233 hS233 => (K_xcV (fr_f_X12_emit _ _ _ hS233) (fun S235 hS235 => (K_ret (Rrl_I hS235 (by omega)))))))) K_non))))))) (K_xcI (fr_f_X12_wrong _ _ hS) (fun v238 S237 hS237 => (K_ite (K_ret hS237) K_non))))) K_non)
theorem fr_f_X12_operand_190 {S0 : xS} (N : Nat) (s0 : Int32) (S : xS) (hS : Rrl S0 S) : KFo Rrl S0 (f_X12_operand_190 N s0 S) := by
  unfold f_X12_operand_190
  exact (K_ite (K_ret hS) K_non)
theorem fr_f_X12_operand_142 {S0 : xS} (N : Nat) (s0 : Int32) (S : xS) (hS : Rrl S0 S) : KFo Rrl S0 (f_X12_operand_142 N s0 S) := by
  unfold f_X12_operand_142
  exact (K_ite (K_ret hS) K_non)
theorem fr_f_X12_operand_113 {S0 : xS} (N : Nat) (s0 : Int32) (S : xS) (hS : Rrl S0 S) : KFo Rrl S0 (f_X12_operand_113 N s0 S) := by
  unfold f_X12_operand_113
  exact (K_ite (K_ret hS) K_non)
theorem fr_f_X12_operand_91 {S0 : xS} (N : Nat) (s0 : Int32) (S : xS) (hS : Rrl S0 S) : KFo Rrl S0 (f_X12_operand_91 N s0 S) := by
  unfold f_X12_operand_91
  exact (K_xcI (fr_f_X12_strength _ _ _ hS) (fun v244 S243 hS243 => (K_ite (K_xcI (fr_f_X12_push _ _ _ hS243) (fun v247 S246 hS246 => (fr_f_X12_operand_113 _ _ _ hS246))) (K_xcI (fr_f_X12_wrong _ _ hS243) (fun v249 S248 hS248 => (fr_f_X12_operand_113 _ _ _ hS248))))))
theorem fr_f_X12_operand {S0 : xS} (N : Nat) (x1 : Int32) (x2 : Int32) (S : xS) (hS : Rrl S0 S) : KFo Rrl S0 (f_X12_operand N x1 x2 S) := by
  unfold f_X12_operand
  exact (K_xin (fun _ => (K_ite (K_xcV (fr_f_X12_emit _ _ _ hS) (fun S252 hS252 => (K_xin (fun _ => (K_xcV (fr_f_X12_emit _ _ _ hS252) (fun S255 hS255 => (K_ret (Rrl_I hS255 (by omega)))))) K_non))) (K_xcI (fr_f_X12_isSign _ _ _ hS) (fun v258 S257 hS257 => (K_ite (K_xcI (fr_f_X12_isWord _ _ _ hS257) (fun v261 S260 hS260 => (K_ite (K_xcI (fr_f_X12_isSign _ _ _ hS260) (fun v264 S263 hS263 => (K_ite (K_xin (fun _ => (K_ite (K_ite (fr_f_X12_operand_191 _ _ hS263) (K_ite (K_xcI (fr_f_X12_aggregate _ _ hS263) (fun v271 S270 hS270 => (fr_f_X12_operand_190 _ _ _ hS270))) (K_xcI (fr_f_X12_wrong _ _ hS263) (fun v273 S272 hS272 => (fr_f_X12_operand_190 _ _ _ hS272))))) (fr_f_X12_operand_191 _ _ hS263))) K_non) (K_xcI (fr_f_X12_bracket _ _ hS263) (fun v275 S274 hS274 => (K_ite (K_xcI (fr_f_X12_wrong _ _ hS274) (fun v278 S277 hS277 => (fr_f_X12_operand_142 _ _ _ hS277))) (K_xcI (fr_f_X12_push _ _ _ hS274) (fun v280 S279 hS279 => (fr_f_X12_operand_142 _ _ _ hS279))))))))) (K_ite (fr_f_X12_operand_91 _ _ _ hS260) (K_xin (fun _ => (fr_f_X12_operand_91 _ _ _ hS260)) K_non))))) (K_xcI (fr_f_X12_push _ _ _ hS257) (fun v284 S283 hS283 => (K_ite (K_ret hS283) K_non)))))))) K_non)
theorem fr_f_X12_unwind_52 {S0 : xS} (N : Nat) (S : xS) (hS : Rrl S0 S) : KFo Rrl S0 (f_X12_unwind_52 N S) := by
  unfold f_X12_unwind_52
  exact (K_ret hS)
theorem fr_f_X12_unwind_0 {S0 : xS} (N : Nat) : ∀ (n : Nat) (x1 : Int32) (x2 : Int32) (S : xS), Rrl S0 S → KFo Rrl S0 (f_X12_unwind_0 N n x1 x2 S) := by
  intro n
  induction n with
  | zero => intro x1 x2 S _; exact K_non
  | succ n ih =>
    intro x1 x2 S hS
    rw [f_X12_unwind_0.eq_2]
    exact (K_ite (fr_f_X12_unwind_52 _ _ hS) (K_xin (fun _ => (K_xcI (fr_f_X12_strength _ _ _ hS) (fun v36 S35 hS35 => (K_ite (fr_f_X12_unwind_52 _ _ hS35) (K_xin (fun _ => (K_xcV (fr_f_X12_emit _ _ _ (Rrl_I hS35 (by omega))) (fun S39 hS39 => (ih _ _ _ hS39)))) K_non))))) K_non))
theorem fr_f_X12_unwind {S0 : xS} (N : Nat) (x1 : Int32) (x2 : Int32) (S : xS) (hS : Rrl S0 S) : KFo Rrl S0 (f_X12_unwind N x1 x2 S) := by
  unfold f_X12_unwind
  exact (K_ite (fr_f_X12_unwind_52 _ _ hS) (K_xin (fun _ => (K_xcI (fr_f_X12_strength _ _ _ hS) (fun v44 S43 hS43 => (K_ite (fr_f_X12_unwind_52 _ _ hS43) (K_xin (fun _ => (K_xcV (fr_f_X12_emit _ _ _ (Rrl_I hS43 (by omega))) (fun S47 hS47 => (fr_f_X12_unwind_0 _ _ _ _ _ hS47)))) K_non))))) K_non))
theorem fr_f_X12_binary_58 {S0 : xS} (N : Nat) (x2 : Int32) (S : xS) (hS : Rrl S0 S) : KFo Rrl S0 (f_X12_binary_58 N x2 S) := by
  unfold f_X12_binary_58
  exact (K_xin (fun _ => (K_ret (Rrl_I (Rrl_I (Rrl_I hS (by omega)) (by omega)) (by omega)))) K_non)
theorem fr_f_X12_binary_19 {S0 : xS} (N : Nat) (x1 : Int32) (x2 : Int32) (x3 : Int32) (s0 : Int32) (s1 : Int32) (S : xS) (hS : Rrl S0 S) : KFo Rrl S0 (f_X12_binary_19 N x1 x2 x3 s0 s1 S) := by
  unfold f_X12_binary_19
  exact (K_xcV (fr_f_X12_unwind _ _ _ _ hS) (fun S32 hS32 => (K_ite (K_ite (fr_f_X12_binary_58 _ _ _ hS32) (K_xin (fun _ => (K_xcI (fr_f_X12_strength _ _ _ hS32) (fun v38 S37 hS37 => (K_ite (K_xcI (fr_f_X12_wrong _ _ hS37) (fun v41 S40 hS40 => (K_ite (K_ret hS40) K_non))) (fr_f_X12_binary_58 _ _ _ hS37))))) K_non)) (fr_f_X12_binary_58 _ _ _ hS32))))
theorem fr_f_X12_binary {S0 : xS} (N : Nat) (x1 : Int32) (x2 : Int32) (S : xS) (hS : Rrl S0 S) : KFo Rrl S0 (f_X12_binary N x1 x2 S) := by
  unfold f_X12_binary
  exact (K_xcI (fr_f_X12_strength _ _ _ hS) (fun v44 S43 hS43 => (K_ite (fr_f_X12_binary_19 _ _ _ _ _ _ _ hS43) (fr_f_X12_binary_19 _ _ _ _ _ _ _ hS43))))
theorem fr_f_X12_closes_60 {S0 : xS} (N : Nat) (S : xS) (hS : Rrl S0 S) : KFo Rrl S0 (f_X12_closes_60 N S) := by
  unfold f_X12_closes_60
  exact (K_ret hS)
theorem fr_f_X12_closes {S0 : xS} (N : Nat) (x1 : Int32) (S : xS) (hS : Rrl S0 S) : KFo Rrl S0 (f_X12_closes N x1 S) := by
  unfold f_X12_closes
  exact (K_xcV (fr_f_X12_unwind _ _ _ _ hS) (fun S15 hS15 => (K_ite (K_ret hS15) (K_xin (fun _ => (K_ite (K_xcV (fr_f_X12_emit _ _ _ (Rrl_I (Rrl_I hS15 (by omega)) (by omega))) (fun S20 hS20 => (fr_f_X12_closes_60 _ _ (Rrl_I hS20 (by omega))))) (fr_f_X12_closes_60 _ _ (Rrl_I (Rrl_I hS15 (by omega)) (by omega))))) K_non))))
theorem fr_f_X12_expression_148 {S0 : xS} (N : Nat) (x2 : Int32) (S : xS) (hS : Rrl S0 S) : KFo Rrl S0 (f_X12_expression_148 N x2 S) := by
  unfold f_X12_expression_148
  exact (K_xcV (fr_f_X12_unwind _ _ _ _ hS) (fun S55 hS55 => (K_ite (K_ret hS55) (K_xcI (fr_f_X12_wrong _ _ hS55) (fun v59 S58 hS58 => (K_ite (K_ret hS58) K_non))))))
theorem fr_f_X12_expression_169 {S0 : xS} (N : Nat) (k12 : Int32 → Int32 → Int32 → xS → Option xr) (hk12 : ∀ (z0 : Int32) (z1 : Int32) (z2 : Int32) (z3 : xS), Rrl S0 z3 → KFo Rrl S0 (k12 z0 z1 z2 z3)) (x1 : Int32) (x2 : Int32) (x3 : Int32) (S : xS) (hS : Rrl S0 S) : KFo Rrl S0 (f_X12_expression_169 N k12 x1 x2 x3 S) := by
  unfold f_X12_expression_169
  exact (hk12 _ _ _ _ hS)
theorem fr_f_X12_expression_86 {S0 : xS} (N : Nat) (k12 : Int32 → Int32 → Int32 → xS → Option xr) (hk12 : ∀ (z0 : Int32) (z1 : Int32) (z2 : Int32) (z3 : xS), Rrl S0 z3 → KFo Rrl S0 (k12 z0 z1 z2 z3)) (x1 : Int32) (x2 : Int32) (s0 : Int32) (S : xS) (hS : Rrl S0 S) : KFo Rrl S0 (f_X12_expression_86 N k12 x1 x2 s0 S) := by
  unfold f_X12_expression_86
  exact (hk12 _ _ _ _ hS)
theorem fr_f_X12_expression_85 {S0 : xS} (N : Nat) (k12 : Int32 → Int32 → Int32 → xS → Option xr) (hk12 : ∀ (z0 : Int32) (z1 : Int32) (z2 : Int32) (z3 : xS), Rrl S0 z3 → KFo Rrl S0 (k12 z0 z1 z2 z3)) (x1 : Int32) (x2 : Int32) (S : xS) (hS : Rrl S0 S) : KFo Rrl S0 (f_X12_expression_85 N k12 x1 x2 S) := by
  unfold f_X12_expression_85
  exact (fr_f_X12_expression_86 _ _ hk12 _ _ _ _ hS)
theorem fr_f_X12_expression_81 {S0 : xS} (N : Nat) (k12 : Int32 → Int32 → Int32 → xS → Option xr) (hk12 : ∀ (z0 : Int32) (z1 : Int32) (z2 : Int32) (z3 : xS), Rrl S0 z3 → KFo Rrl S0 (k12 z0 z1 z2 z3)) (x1 : Int32) (x2 : Int32) (S : xS) (hS : Rrl S0 S) : KFo Rrl S0 (f_X12_expression_81 N k12 x1 x2 S) := by
  unfold f_X12_expression_81
  exact (fr_f_X12_expression_86 _ _ hk12 _ _ _ _ hS)
theorem fr_f_X12_expression_57 {S0 : xS} (N : Nat) (k12 : Int32 → Int32 → Int32 → xS → Option xr) (hk12 : ∀ (z0 : Int32) (z1 : Int32) (z2 : Int32) (z3 : xS), Rrl S0 z3 → KFo Rrl S0 (k12 z0 z1 z2 z3)) (x1 : Int32) (x2 : Int32) (x4 : Int32) (S : xS) (hS : Rrl S0 S) : KFo Rrl S0 (f_X12_expression_57 N k12 x1 x2 x4 S) := by
  unfold f_X12_expression_57
  exact (K_ite (fr_f_X12_expression_85 _ _ hk12 _ _ _ hS) (K_xin (fun _ => (K_ite (fr_f_X12_expression_81 _ _ hk12 _ _ _ hS) (fr_f_X12_expression_85 _ _ hk12 _ _ _ hS))) K_non))
theorem fr_f_X12_expression_12 {S0 : xS} (N : Nat) : ∀ (n : Nat) (x1 : Int32) (x2 : Int32) (x3 : Int32) (S : xS), Rrl S0 S → KFo Rrl S0 (f_X12_expression_12 N n x1 x2 x3 S) := by
  intro n
  induction n with
  | zero => intro x1 x2 x3 S _; exact K_non
  | succ n ih =>
    intro x1 x2 x3 S hS
    rw [f_X12_expression_12.eq_2]
    exact (K_ite (K_xcI (fr_f_X12_operation _ _ hS) (fun v66 S65 hS65 => (K_ite (K_xcI (fr_f_X12_isSign _ _ _ hS65) (fun v69 S68 hS68 => (K_ite (fr_f_X12_expression_148 _ _ _ hS68) (K_xcI (fr_f_X12_closes _ _ _ hS68) (fun v72 S71 hS71 => (K_ite (fr_f_X12_expression_148 _ _ _ hS71) (fr_f_X12_expression_169 _ _ (fun z0 z1 z2 z3 hh => ih z0 z1 z2 z3 hh) _ _ _ _ (Rrl_I hS71 (by omega))))))))) (K_xcI (fr_f_X12_binary _ _ _ _ hS65) (fun v75 S74 hS74 => (K_ite (K_ret hS74) (fr_f_X12_expression_169 _ _ (fun z0 z1 z2 z3 hh => ih z0 z1 z2 z3 hh) _ _ _ _ hS74))))))) (K_xcI (fr_f_X12_operand _ _ _ _ hS) (fun v78 S77 hS77 => (K_ite (K_ret hS77) (K_ite (fr_f_X12_expression_57 _ _ (fun z0 z1 z2 z3 hh => ih z0 z1 z2 z3 hh) _ _ _ _ hS77) (K_ite (fr_f_X12_expression_81 _ _ (fun z0 z1 z2 z3 hh => ih z0 z1 z2 z3 hh) _ _ _ hS77) (fr_f_X12_expression_57 _ _ (fun z0 z1 z2 z3 hh => ih z0 z1 z2 z3 hh) _ _ _ _ hS77)))))))
theorem fr_f_X12_expression {S0 : xS} (N : Nat) (x1 : Int32) (S : xS) (hS : Rrl S0 S) : KFo Rrl S0 (f_X12_expression N x1 S) := by
  unfold f_X12_expression
  exact (fr_f_X12_expression_12 _ _ _ _ _ _ (Rrl_I hS (by omega)))
theorem fr_f_X12_measured {S0 : xS} (N : Nat) (x1 : Int32) (S : xS) (hS : Rrl S0 S) : KFo Rrl S0 (f_X12_measured N x1 S) := by
  unfold f_X12_measured
  exact (K_xcV (fr_f_X12_emit _ _ _ hS) (fun S7 hS7 => (K_xcI (fr_f_X12_expression _ _ _ hS7) (fun v10 S9 hS9 => (K_ite (K_ret hS9) (K_xin (fun _ => (K_ret (Rrl_I hS9 (by omega)))) K_non))))))
theorem fr_f_X12_whereOf {S0 : xS} (N : Nat) (x1 : Int32) (S : xS) (hS : Rrl S0 S) : KFo Rrl S0 (f_X12_whereOf N x1 S) := by
  unfold f_X12_whereOf
  exact (K_xcI (fr_f_X12_isWord _ _ _ hS) (fun v10 S9 hS9 => (K_ite (K_xcV (fr_f_X12_emit _ _ _ hS9) (fun S12 hS12 => (K_ret hS12))) (K_xcI (fr_f_X12_measured _ _ _ (Rrl_I hS9 (by omega))) (fun v15 S14 hS14 => (K_ite (K_ret hS14) K_non))))))
theorem fr_f_X12_inline {S0 : xS} (N : Nat) (S : xS) (hS : Rrl S0 S) : KFo Rrl S0 (f_X12_inline N S) := by
  unfold f_X12_inline
  exact (K_xcV (fr_f_X12_emit _ _ _ hS) (fun S6 hS6 => (K_xcI (fr_f_X12_measured _ _ _ hS6) (fun v9 S8 hS8 => (K_ite (K_ret hS8) K_non)))))
theorem fr_f_X12_newKind_64 {S0 : xS} (N : Nat) (S : xS) (hS : Rrl S0 S) : KFo Rrl S0 (f_X12_newKind_64 N S) := by
  unfold f_X12_newKind_64
  exact (K_xcI (fr_f_X12_wrong _ _ hS) (fun v102 S101 hS101 => (K_ite (K_ret hS101) K_non)))
theorem fr_f_X12_newKind_155 {S0 : xS} (N : Nat) (S : xS) (hS : Rrl S0 S) : KFo Rrl S0 (f_X12_newKind_155 N S) := by
  unfold f_X12_newKind_155
  exact (K_xcI (fr_f_X12_wrong _ _ hS) (fun v105 S104 hS104 => (K_ite (K_ret hS104) K_non)))
theorem fr_f_X12_newKind_268 {S0 : xS} (N : Nat) (S : xS) (hS : Rrl S0 S) : KFo Rrl S0 (f_X12_newKind_268 N S) := by
  unfold f_X12_newKind_268
  exact (K_xcI (fr_f_X12_wrong _ _ hS) (fun v108 S107 hS107 => (K_ite (K_ret hS107) K_non)))
theorem fr_f_X12_newKind_361 {S0 : xS} (N : Nat) (k110 : Int32 → Int32 → Int32 → xS → Option xr) (hk110 : ∀ (z0 : Int32) (z1 : Int32) (z2 : Int32) (z3 : xS), Rrl S0 z3 → KFo Rrl S0 (k110 z0 z1 z2 z3)) (x1 : Int32) (x2 : Int32) (s0 : Int32) (S : xS) (hS : Rrl S0 S) : KFo Rrl S0 (f_X12_newKind_361 N k110 x1 x2 s0 S) := by
  unfold f_X12_newKind_361
  exact (K_ite (hk110 _ _ _ _ hS) (hk110 _ _ _ _ (Rrl_I hS (by omega))))
theorem fr_f_X12_newKind_360 {S0 : xS} (N : Nat) (k110 : Int32 → Int32 → Int32 → xS → Option xr) (hk110 : ∀ (z0 : Int32) (z1 : Int32) (z2 : Int32) (z3 : xS), Rrl S0 z3 → KFo Rrl S0 (k110 z0 z1 z2 z3)) (x1 : Int32) (x2 : Int32) (S : xS) (hS : Rrl S0 S) : KFo Rrl S0 (f_X12_newKind_360 N k110 x1 x2 S) := by
  unfold f_X12_newKind_360
  exact (fr_f_X12_newKind_361 _ _ hk110 _ _ _ _ hS)
theorem fr_f_X12_newKind_326 {S0 : xS} (N : Nat) (k110 : Int32 → Int32 → Int32 → xS → Option xr) (hk110 : ∀ (z0 : Int32) (z1 : Int32) (z2 : Int32) (z3 : xS), Rrl S0 z3 → KFo Rrl S0 (k110 z0 z1 z2 z3)) (x1 : Int32) (x2 : Int32) (S : xS) (hS : Rrl S0 S) : KFo Rrl S0 (f_X12_newKind_326 N k110 x1 x2 S) := by
  unfold f_X12_newKind_326
  exact (K_xcI (fr_f_X12_isSign _ _ _ (Rrl_I hS (by omega))) (fun v112 S111 hS111 => (K_ite (fr_f_X12_newKind_360 _ _ hk110 _ _ _ hS111) (K_xin (fun _ => (K_ite (fr_f_X12_newKind_360 _ _ hk110 _ _ _ hS111) (fr_f_X12_newKind_361 _ _ hk110 _ _ _ _ hS111))) K_non))))
theorem fr_f_X12_newKind_195 {S0 : xS} (N : Nat) (k110 : Int32 → Int32 → Int32 → xS → Option xr) (hk110 : ∀ (z0 : Int32) (z1 : Int32) (z2 : Int32) (z3 : xS), Rrl S0 z3 → KFo Rrl S0 (k110 z0 z1 z2 z3)) (x1 : Int32) (x2 : Int32) (S : xS) (hS : Rrl S0 S) : KFo Rrl S0 (f_X12_newKind_195 N k110 x1 x2 S) := by
  unfold f_X12_newKind_195
  exact (K_xcI (fr_f_X12_sign _ _ _ hS) (fun v117 S116 hS116 => (K_ite (K_ret hS116) (K_xin (fun _ => (K_ite (K_ite (fr_f_X12_newKind_268 _ _ hS116) (K_ite (fr_f_X12_newKind_268 _ _ hS116) (K_ite (K_xin (fun _ => (K_xin (fun _ => (fr_f_X12_newKind_326 _ _ hk110 _ _ _ (Rrl_I (Rrl_I hS116 (by omega)) (by omega)))) K_non)) K_non) (fr_f_X12_newKind_268 _ _ hS116)))) (fr_f_X12_newKind_268 _ _ hS116))) K_non))))
theorem fr_f_X12_newKind_110 {S0 : xS} (N : Nat) : ∀ (n : Nat) (x1 : Int32) (x2 : Int32) (x3 : Int32) (S : xS), Rrl S0 S → KFo Rrl S0 (f_X12_newKind_110 N n x1 x2 x3 S) := by
  intro n
  induction n with
  | zero => intro x1 x2 x3 S _; exact K_non
  | succ n ih =>
    intro x1 x2 x3 S hS
    rw [f_X12_newKind_110.eq_2]
    exact (K_ite (K_xcI (fr_f_X12_sign _ _ _ (Rrl_I hS (by omega))) (fun v128 S127 hS127 => (K_ite (K_ret hS127) K_non))) (K_xin (fun _ => (K_ite (fr_f_X12_newKind_155 _ _ hS) (K_xin (fun _ => (K_ite (K_xcI (fr_f_X12_fieldOf _ _ _ _ hS) (fun v135 S134 hS134 => (K_ite (K_xin (fun _ => (K_xin (fun _ => (fr_f_X12_newKind_195 _ _ (fun z0 z1 z2 z3 hh => ih z0 z1 z2 z3 hh) _ _ _ (Rrl_I (Rrl_J hS134 (by omega)) (by omega)))) K_non)) K_non) (fr_f_X12_newKind_155 _ _ hS134)))) (fr_f_X12_newKind_155 _ _ hS))) K_non))) K_non))
theorem fr_f_X12_newKind_96 {S0 : xS} (N : Nat) (x1 : Int32) (S : xS) (hS : Rrl S0 S) : KFo Rrl S0 (f_X12_newKind_96 N x1 S) := by
  unfold f_X12_newKind_96
  exact (fr_f_X12_newKind_110 _ _ _ _ _ _ (Rrl_I hS (by omega)))
theorem fr_f_X12_newKind {S0 : xS} (N : Nat) (S : xS) (hS : Rrl S0 S) : KFo Rrl S0 (f_X12_newKind N S) := by
  unfold f_X12_newKind
  exact (K_xin (fun _ => (K_ite (K_xcI (fr_f_X12_kindOf _ _ _ (Rrl_I hS (by omega))) (fun v142 S141 hS141 => (K_ite (fr_f_X12_newKind_64 _ _ hS141) (K_xin (fun _ => (K_xcI (fr_f_X12_varOf _ _ _ hS141) (fun v146 S145 hS145 => (K_ite (fr_f_X12_newKind_64 _ _ hS145) (K_ite (fr_f_X12_newKind_64 _ _ hS145) (K_xin (fun _ => (K_xin (fun _ => (fr_f_X12_newKind_96 _ _ _ (Rrl_I (Rrl_J hS145 (by omega)) (by omega)))) K_non)) K_non)))))) K_non)))) (fr_f_X12_newKind_64 _ _ (Rrl_I hS (by omega))))) K_non)
theorem fr_f_X12_puts_238 {S0 : xS} (N : Nat) (S : xS) (hS : Rrl S0 S) : KFo Rrl S0 (f_X12_puts_238 N S) := by
  unfold f_X12_puts_238
  exact (K_xcI (fr_f_X12_sign _ _ _ hS) (fun v90 S89 hS89 => (K_ite (K_ret hS89) K_non)))
theorem fr_f_X12_puts_214 {S0 : xS} (N : Nat) : ∀ (n : Nat) (x4 : Int32) (x7 : Int32) (S : xS), Rrl S0 S → KFo Rrl S0 (f_X12_puts_214 N n x4 x7 S) := by
  intro n
  induction n with
  | zero => intro x4 x7 S _; exact K_non
  | succ n ih =>
    intro x4 x7 S hS
    rw [f_X12_puts_214.eq_2]
    exact (K_ite (fr_f_X12_puts_238 _ _ hS) (K_xin (fun _ => (K_xcV (fr_f_X12_emit _ _ _ hS) (fun S94 hS94 => (ih _ _ _ hS94)))) K_non))
theorem fr_f_X12_puts_77 {S0 : xS} (N : Nat) (S : xS) (hS : Rrl S0 S) : KFo Rrl S0 (f_X12_puts_77 N S) := by
  unfold f_X12_puts_77
  exact (K_xcI (fr_f_X12_wrong _ _ hS) (fun v97 S96 hS96 => (K_ite (K_ret hS96) K_non)))
theorem fr_f_X12_puts_176 {S0 : xS} (N : Nat) (k23 : Int32 → Int32 → Int32 → Int32 → Int32 → Int32 → xS → Option xr) (hk23 : ∀ (z0 : Int32) (z1 : Int32) (z2 : Int32) (z3 : Int32) (z4 : Int32) (z5 : Int32) (z6 : xS), Rrl S0 z6 → KFo Rrl S0 (k23 z0 z1 z2 z3 z4 z5 z6)) (x1 : Int32) (x2 : Int32) (x3 : Int32) (x4 : Int32) (x5 : Int32) (x6 : Int32) (S : xS) (hS : Rrl S0 S) : KFo Rrl S0 (f_X12_puts_176 N k23 x1 x2 x3 x4 x5 x6 S) := by
  unfold f_X12_puts_176
  exact (hk23 _ _ _ _ _ _ _ hS)
theorem fr_f_X12_puts_150 {S0 : xS} (N : Nat) (k23 : Int32 → Int32 → Int32 → Int32 → Int32 → Int32 → xS → Option xr) (hk23 : ∀ (z0 : Int32) (z1 : Int32) (z2 : Int32) (z3 : Int32) (z4 : Int32) (z5 : Int32) (z6 : xS), Rrl S0 z6 → KFo Rrl S0 (k23 z0 z1 z2 z3 z4 z5 z6)) (x1 : Int32) (x2 : Int32) (x3 : Int32) (x4 : Int32) (x5 : Int32) (S : xS) (hS : Rrl S0 S) : KFo Rrl S0 (f_X12_puts_150 N k23 x1 x2 x3 x4 x5 S) := by
  unfold f_X12_puts_150
  exact (K_xcI (fr_f_X12_isSign _ _ _ hS) (fun v100 S99 hS99 => (K_ite (fr_f_X12_puts_176 _ _ hk23 _ _ _ _ _ _ _ hS99) (fr_f_X12_puts_176 _ _ hk23 _ _ _ _ _ _ _ (Rrl_I hS99 (by omega))))))
theorem fr_f_X12_puts_59 {S0 : xS} (N : Nat) (k23 : Int32 → Int32 → Int32 → Int32 → Int32 → Int32 → xS → Option xr) (hk23 : ∀ (z0 : Int32) (z1 : Int32) (z2 : Int32) (z3 : Int32) (z4 : Int32) (z5 : Int32) (z6 : xS), Rrl S0 z6 → KFo Rrl S0 (k23 z0 z1 z2 z3 z4 z5 z6)) (x1 : Int32) (x2 : Int32) (x3 : Int32) (x4 : Int32) (x5 : Int32) (s0 : Int32) (S : xS) (hS : Rrl S0 S) : KFo Rrl S0 (f_X12_puts_59 N k23 x1 x2 x3 x4 x5 s0 S) := by
  unfold f_X12_puts_59
  exact (K_ite (fr_f_X12_puts_77 _ _ hS) (K_ite (fr_f_X12_puts_77 _ _ hS) (K_xcI (fr_f_X12_sign _ _ _ (Rrl_I hS (by omega))) (fun v105 S104 hS104 => (K_ite (K_ret hS104) (K_ite (K_xcI (fr_f_X12_inline _ _ hS104) (fun v109 S108 hS108 => (K_ite (K_ret hS108) (K_xin (fun _ => (fr_f_X12_puts_150 _ _ hk23 _ _ _ _ _ _ (Rrl_I hS108 (by omega)))) K_non)))) (K_xcV (fr_f_X12_emit _ _ _ hS104) (fun S112 hS112 => (K_xcI (fr_f_X12_measured _ _ _ hS112) (fun v115 S114 hS114 => (K_ite (K_ret hS114) (fr_f_X12_puts_150 _ _ hk23 _ _ _ _ _ _ hS114))))))))))))
theorem fr_f_X12_puts_23 {S0 : xS} (N : Nat) : ∀ (n : Nat) (x1 : Int32) (x2 : Int32) (x3 : Int32) (x4 : Int32) (x5 : Int32) (x6 : Int32) (S : xS), Rrl S0 S → KFo Rrl S0 (f_X12_puts_23 N n x1 x2 x3 x4 x5 x6 S) := by
  intro n
  induction n with
  | zero => intro x1 x2 x3 x4 x5 x6 S _; exact K_non
  | succ n ih =>
    intro x1 x2 x3 x4 x5 x6 S hS
    rw [f_X12_puts_23.eq_2]
    exact (K_ite (K_ite (K_xcV (fr_f_X12_emit _ _ _ hS) (fun S119 hS119 => (K_xcV (fr_f_X12_emit _ _ _ hS119) (fun S121 hS121 => (K_xcV (fr_f_X12_emit _ _ _ hS121) (fun S123 hS123 => (fr_f_X12_puts_214 _ _ _ _ _ hS123))))))) (K_xin (fun _ => (fr_f_X12_puts_238 _ _ (Rrl_I hS (by omega)))) K_non)) (K_xin (fun _ => (K_ite (K_xcI (fr_f_X12_fieldOf _ _ _ _ hS) (fun v129 S128 hS128 => (fr_f_X12_puts_59 _ _ (fun z0 z1 z2 z3 z4 z5 z6 hh => ih z0 z1 z2 z3 z4 z5 z6 hh) _ _ _ _ _ _ _ hS128))) (fr_f_X12_puts_59 _ _ (fun z0 z1 z2 z3 z4 z5 z6 hh => ih z0 z1 z2 z3 z4 z5 z6 hh) _ _ _ _ _ _ _ hS))) K_non))
theorem fr_f_X12_puts_20 {S0 : xS} (N : Nat) (x1 : Int32) (x2 : Int32) (x3 : Int32) (x4 : Int32) (x5 : Int32) (S : xS) (hS : Rrl S0 S) : KFo Rrl S0 (f_X12_puts_20 N x1 x2 x3 x4 x5 S) := by
  unfold f_X12_puts_20
  exact (fr_f_X12_puts_23 _ _ _ _ _ _ _ _ _ hS)
theorem fr_f_X12_puts {S0 : xS} (N : Nat) (x1 : Int32) (x2 : Int32) (S : xS) (hS : Rrl S0 S) : KFo Rrl S0 (f_X12_puts N x1 x2 S) := by
  unfold f_X12_puts
  exact (K_ite (fr_f_X12_puts_20 _ _ _ _ _ _ _ hS) (K_xcV (fr_f_X12_emit _ _ _ hS) (fun S131 hS131 => (fr_f_X12_puts_20 _ _ _ _ _ _ _ hS131))))
theorem fr_f_X12_block {S0 : xS} (N : Nat) (x1 : Int32) (x2 : Int32) (x3 : Int32) (x4 : Int32) (S : xS) (hS : Rrl S0 S) : KFo Rrl S0 (f_X12_block N x1 x2 x3 x4 S) := by
  unfold f_X12_block
  exact (K_xin (fun _ => (K_ret (Rrl_I (Rrl_I (Rrl_I (Rrl_I (Rrl_I hS (by omega)) (by omega)) (by omega)) (by omega)) (by omega)))) K_non)
theorem fr_f_X12_opens_16 {S0 : xS} (N : Nat) (S : xS) (hS : Rrl S0 S) : KFo Rrl S0 (f_X12_opens_16 N S) := by
  unfold f_X12_opens_16
  exact (K_xcI (fr_f_X12_wrong _ _ hS) (fun v20 S19 hS19 => (K_ite (K_ret hS19) K_non)))
theorem fr_f_X12_opens {S0 : xS} (N : Nat) (S : xS) (hS : Rrl S0 S) : KFo Rrl S0 (f_X12_opens N S) := by
  unfold f_X12_opens
  exact (K_xcI (fr_f_X12_isSign _ _ _ hS) (fun v23 S22 hS22 => (K_ite (fr_f_X12_opens_16 _ _ hS22) (K_xcI (fr_f_X12_bracket _ _ hS22) (fun v26 S25 hS25 => (K_ite (fr_f_X12_opens_16 _ _ hS25) (K_ret (Rrl_I hS25 (by omega)))))))))
theorem fr_f_X12_each_34 {S0 : xS} (N : Nat) (S : xS) (hS : Rrl S0 S) : KFo Rrl S0 (f_X12_each_34 N S) := by
  unfold f_X12_each_34
  exact (K_ret hS)
theorem fr_f_X12_each {S0 : xS} (N : Nat) (S : xS) (hS : Rrl S0 S) : KFo Rrl S0 (f_X12_each N S) := by
  unfold f_X12_each
  exact (K_xcV (fr_f_X12_emit _ _ _ hS) (fun S75 hS75 => (K_xcI (fr_f_X12_takeKind _ _ (Rrl_I hS75 (by omega))) (fun v78 S77 hS77 => (K_ite (fr_f_X12_each_34 _ _ hS77) (K_xcI (fr_f_X12_keyword _ _ _ hS77) (fun v81 S80 hS80 => (K_ite (fr_f_X12_each_34 _ _ hS80) (K_xcI (fr_f_X12_takeField _ _ _ hS80) (fun v84 S83 hS83 => (K_ite (K_xcI (fr_f_X12_levels _ _ hS83) (fun v87 S86 hS86 => (K_xcV (fr_f_X12_emit _ _ _ hS86) (fun S88 hS88 => (K_xcV (fr_f_X12_emit _ _ _ hS88) (fun S90 hS90 => (K_xcV (fr_f_X12_emit _ _ _ hS90) (fun S92 hS92 => (K_xcV (fr_f_X12_emit _ _ _ hS92) (fun S94 hS94 => (K_xcI (fr_f_X12_whereOf _ _ _ hS94) (fun v97 S96 hS96 => (K_ite (K_ret hS96) (K_xcV (fr_f_X12_emit _ _ _ hS96) (fun S99 hS99 => (K_xcV (fr_f_X12_emit _ _ _ hS99) (fun S101 hS101 => (K_xcV (fr_f_X12_emit _ _ _ hS101) (fun S103 hS103 => (K_xcV (fr_f_X12_emit _ _ _ hS103) (fun S105 hS105 => (K_xcV (fr_f_X12_block _ _ _ _ _ _ hS105) (fun S107 hS107 => (K_xcI (fr_f_X12_opens _ _ hS107) (fun v110 S109 hS109 => (K_ite (K_ret hS109) K_non)))))))))))))))))))))))))) (K_ret hS83))))))))))))
theorem fr_f_X12_condition_51 {S0 : xS} (N : Nat) (x2 : Int32) (s0 : Int32) (S : xS) (hS : Rrl S0 S) : KFo Rrl S0 (f_X12_condition_51 N x2 s0 S) := by
  unfold f_X12_condition_51
  exact (K_xcV (fr_f_X12_block _ _ _ _ _ _ hS) (fun S31 hS31 => (K_xcI (fr_f_X12_opens _ _ hS31) (fun v34 S33 hS33 => (K_ite (K_ret hS33) K_non)))))
theorem fr_f_X12_condition {S0 : xS} (N : Nat) (x1 : Int32) (S : xS) (hS : Rrl S0 S) : KFo Rrl S0 (f_X12_condition N x1 S) := by
  unfold f_X12_condition
  exact (K_xcV (fr_f_X12_emit _ _ _ hS) (fun S36 hS36 => (K_xcI (fr_f_X12_inline _ _ (Rrl_I hS36 (by omega))) (fun v39 S38 hS38 => (K_ite (K_ret hS38) (K_xcV (fr_f_X12_emit _ _ _ hS38) (fun S41 hS41 => (K_xcV (fr_f_X12_emit _ _ _ hS41) (fun S43 hS43 => (K_ite (fr_f_X12_condition_51 _ _ _ _ hS43) (fr_f_X12_condition_51 _ _ _ _ hS43)))))))))))
theorem fr_f_X12_ends_149 {S0 : xS} (N : Nat) (x2 : Int32) (S : xS) (hS : Rrl S0 S) : KFo Rrl S0 (f_X12_ends_149 N x2 S) := by
  unfold f_X12_ends_149
  exact (K_xin (fun _ => (K_ret (Rrl_I hS (by omega)))) K_non)
theorem fr_f_X12_ends_86 {S0 : xS} (N : Nat) (x1 : Int32) (x2 : Int32) (S : xS) (hS : Rrl S0 S) : KFo Rrl S0 (f_X12_ends_86 N x1 x2 S) := by
  unfold f_X12_ends_86
  exact (K_ite (K_xcI (fr_f_X12_isWord _ _ _ hS) (fun v56 S55 hS55 => (K_ite (fr_f_X12_ends_149 _ _ _ hS55) (K_xcV (fr_f_X12_emit _ _ _ (Rrl_I hS55 (by omega))) (fun S58 hS58 => (K_xcV (fr_f_X12_emit _ _ _ hS58) (fun S60 hS60 => (K_xin (fun _ => (K_xcV (fr_f_X12_block _ _ _ _ _ _ (Rrl_I hS60 (by omega))) (fun S63 hS63 => (K_xcI (fr_f_X12_opens _ _ hS63) (fun v66 S65 hS65 => (K_ite (K_ret hS65) K_non)))))) K_non)))))))) (fr_f_X12_ends_149 _ _ _ hS))
theorem fr_f_X12_ends {S0 : xS} (N : Nat) (S : xS) (hS : Rrl S0 S) : KFo Rrl S0 (f_X12_ends N S) := by
  unfold f_X12_ends
  exact (K_ite (K_xcI (fr_f_X12_wrong _ _ hS) (fun v70 S69 hS69 => (K_ite (K_ret hS69) K_non))) (K_xin (fun _ => (K_ite (fr_f_X12_ends_86 _ _ _ _ (Rrl_I (Rrl_I (Rrl_I hS (by omega)) (by omega)) (by omega))) (K_xcV (fr_f_X12_emit _ _ _ (Rrl_I (Rrl_I (Rrl_I hS (by omega)) (by omega)) (by omega))) (fun S74 hS74 => (K_xin (fun _ => (K_xcV (fr_f_X12_emit _ _ _ hS74) (fun S77 hS77 => (fr_f_X12_ends_86 _ _ _ _ hS77)))) K_non))))) K_non))
theorem fr_f_X12_cursor_150 {S0 : xS} (N : Nat) (S : xS) (hS : Rrl S0 S) : KFo Rrl S0 (f_X12_cursor_150 N S) := by
  unfold f_X12_cursor_150
  exact (K_ret hS)
theorem fr_f_X12_cursor_64 {S0 : xS} (N : Nat) (x1 : Int32) (x2 : Int32) (s0 : Int32) (S : xS) (hS : Rrl S0 S) : KFo Rrl S0 (f_X12_cursor_64 N x1 x2 s0 S) := by
  unfold f_X12_cursor_64
  exact (K_ite (K_ite (K_xcI (fr_f_X12_sign _ _ _ (Rrl_I hS (by omega))) (fun v98 S97 hS97 => (K_ite (K_ret hS97) (K_xcI (fr_f_X12_takeField _ _ _ hS97) (fun v101 S100 hS100 => (K_ite (fr_f_X12_cursor_150 _ _ hS100) (K_xcI (fr_f_X12_sign _ _ _ hS100) (fun v104 S103 hS103 => (K_ite (fr_f_X12_cursor_150 _ _ hS103) (K_xcI (fr_f_X12_inline _ _ hS103) (fun v107 S106 hS106 => (K_ite (fr_f_X12_cursor_150 _ _ hS106) (K_xcV (fr_f_X12_emit _ _ _ hS106) (fun S109 hS109 => (K_xcV (fr_f_X12_emit _ _ _ hS109) (fun S111 hS111 => (K_xcV (fr_f_X12_emit _ _ _ hS111) (fun S113 hS113 => (K_xcV (fr_f_X12_emit _ _ _ hS113) (fun S115 hS115 => (K_xcI (fr_f_X12_sign _ _ _ hS115) (fun v118 S117 hS117 => (K_ite (K_ret hS117) K_non))))))))))))))))))))))) (K_xcV (fr_f_X12_emit _ _ _ (Rrl_I hS (by omega))) (fun S120 hS120 => (K_xcV (fr_f_X12_emit _ _ _ hS120) (fun S122 hS122 => (K_xcV (fr_f_X12_emit _ _ _ hS122) (fun S124 hS124 => (K_xcI (fr_f_X12_sign _ _ _ hS124) (fun v127 S126 hS126 => (K_ite (K_ret hS126) K_non)))))))))) (K_xcI (fr_f_X12_wrong _ _ hS) (fun v130 S129 hS129 => (K_ite (K_ret hS129) K_non))))
theorem fr_f_X12_cursor_50 {S0 : xS} (N : Nat) (x1 : Int32) (s0 : Int32) (S : xS) (hS : Rrl S0 S) : KFo Rrl S0 (f_X12_cursor_50 N x1 s0 S) := by
  unfold f_X12_cursor_50
  exact (K_ite (K_xcI (fr_f_X12_levelOf _ _ _ hS) (fun v134 S133 hS133 => (fr_f_X12_cursor_64 _ _ _ _ _ hS133))) (fr_f_X12_cursor_64 _ _ _ _ _ hS))
theorem fr_f_X12_cursor_20 {S0 : xS} (N : Nat) (x1 : Int32) (S : xS) (hS : Rrl S0 S) : KFo Rrl S0 (f_X12_cursor_20 N x1 S) := by
  unfold f_X12_cursor_20
  exact (K_xin (fun _ => (K_ite (K_xcI (fr_f_X12_kindOf _ _ _ hS) (fun v138 S137 hS137 => (fr_f_X12_cursor_50 _ _ _ _ hS137))) (fr_f_X12_cursor_50 _ _ _ _ hS))) K_non)
theorem fr_f_X12_cursor {S0 : xS} (N : Nat) (x1 : Int32) (S : xS) (hS : Rrl S0 S) : KFo Rrl S0 (f_X12_cursor N x1 S) := by
  unfold f_X12_cursor
  exact (K_xcV (fr_f_X12_emit _ _ _ hS) (fun S139 hS139 => (K_ite (fr_f_X12_cursor_20 _ _ _ hS139) (fr_f_X12_cursor_20 _ _ _ (Rrl_I hS139 (by omega))))))
theorem fr_f_X12_letOrPrint_97 {S0 : xS} (N : Nat) (x2 : Int32) (s0 : Int32) (S : xS) (hS : Rrl S0 S) : KFo Rrl S0 (f_X12_letOrPrint_97 N x2 s0 S) := by
  unfold f_X12_letOrPrint_97
  exact (K_xcV (fr_f_X12_emit _ _ _ hS) (fun S57 hS57 => (K_xcV (fr_f_X12_emit _ _ _ hS57) (fun S59 hS59 => (K_xcI (fr_f_X12_sign _ _ _ hS59) (fun v62 S61 hS61 => (K_ite (K_ret hS61) K_non)))))))
theorem fr_f_X12_letOrPrint_76 {S0 : xS} (N : Nat) (x1 : Int32) (x2 : Int32) (S : xS) (hS : Rrl S0 S) : KFo Rrl S0 (f_X12_letOrPrint_76 N x1 x2 S) := by
  unfold f_X12_letOrPrint_76
  exact (K_xcI (fr_f_X12_inline _ _ hS) (fun v65 S64 hS64 => (K_ite (K_ret hS64) (K_ite (fr_f_X12_letOrPrint_97 _ _ _ _ hS64) (fr_f_X12_letOrPrint_97 _ _ _ _ hS64)))))
theorem fr_f_X12_letOrPrint_51 {S0 : xS} (N : Nat) (S : xS) (hS : Rrl S0 S) : KFo Rrl S0 (f_X12_letOrPrint_51 N S) := by
  unfold f_X12_letOrPrint_51
  exact (K_xcI (fr_f_X12_wrong _ _ hS) (fun v69 S68 hS68 => (K_ite (K_ret hS68) K_non)))
theorem fr_f_X12_letOrPrint_74 {S0 : xS} (N : Nat) (S : xS) (hS : Rrl S0 S) : KFo Rrl S0 (f_X12_letOrPrint_74 N S) := by
  unfold f_X12_letOrPrint_74
  exact (K_ret hS)
theorem fr_f_X12_letOrPrint {S0 : xS} (N : Nat) (x1 : Int32) (S : xS) (hS : Rrl S0 S) : KFo Rrl S0 (f_X12_letOrPrint N x1 S) := by
  unfold f_X12_letOrPrint
  exact (K_xcV (fr_f_X12_emit _ _ _ hS) (fun S71 hS71 => (K_ite (fr_f_X12_letOrPrint_76 _ _ _ _ (Rrl_I hS71 (by omega))) (K_xin (fun _ => (K_ite (K_xcI (fr_f_X12_kindOf _ _ _ (Rrl_I hS71 (by omega))) (fun v77 S76 hS76 => (K_ite (K_xcI (fr_f_X12_takeVariable _ _ hS76) (fun v80 S79 hS79 => (K_ite (fr_f_X12_letOrPrint_74 _ _ hS79) (K_xcI (fr_f_X12_sign _ _ _ hS79) (fun v83 S82 hS82 => (K_ite (fr_f_X12_letOrPrint_74 _ _ hS82) (fr_f_X12_letOrPrint_76 _ _ _ _ hS82))))))) (fr_f_X12_letOrPrint_51 _ _ hS76)))) (fr_f_X12_letOrPrint_51 _ _ (Rrl_I hS71 (by omega))))) K_non))))
theorem fr_f_X12_onKind_105 {S0 : xS} (N : Nat) (s0 : Int32) (S : xS) (hS : Rrl S0 S) : KFo Rrl S0 (f_X12_onKind_105 N s0 S) := by
  unfold f_X12_onKind_105
  exact (K_ite (K_ret hS) K_non)
theorem fr_f_X12_onKind_104 {S0 : xS} (N : Nat) (S : xS) (hS : Rrl S0 S) : KFo Rrl S0 (f_X12_onKind_104 N S) := by
  unfold f_X12_onKind_104
  exact (fr_f_X12_onKind_105 _ _ _ hS)
theorem fr_f_X12_onKind_52 {S0 : xS} (N : Nat) (x1 : Int32) (x2 : Int32) (s0 : Int32) (S : xS) (hS : Rrl S0 S) : KFo Rrl S0 (f_X12_onKind_52 N x1 x2 s0 S) := by
  unfold f_X12_onKind_52
  exact (K_xcV (fr_f_X12_emit _ _ _ hS) (fun S58 hS58 => (K_xcV (fr_f_X12_emit _ _ _ hS58) (fun S60 hS60 => (K_xcI (fr_f_X12_whereOf _ _ _ hS60) (fun v63 S62 hS62 => (K_ite (K_ret hS62) (K_ite (K_xcI (fr_f_X12_sign _ _ _ hS62) (fun v67 S66 hS66 => (K_ite (K_ret hS66) K_non))) (K_xcI (fr_f_X12_sign _ _ _ hS62) (fun v70 S69 hS69 => (K_ite (fr_f_X12_onKind_104 _ _ hS69) (K_xcI (fr_f_X12_puts _ _ _ _ hS69) (fun v73 S72 hS72 => (K_ite (fr_f_X12_onKind_104 _ _ hS72) (fr_f_X12_onKind_105 _ _ _ hS72)))))))))))))))
theorem fr_f_X12_onKind {S0 : xS} (N : Nat) (x1 : Int32) (S : xS) (hS : Rrl S0 S) : KFo Rrl S0 (f_X12_onKind N x1 S) := by
  unfold f_X12_onKind
  exact (K_xcV (fr_f_X12_emit _ _ _ hS) (fun S75 hS75 => (K_xcI (fr_f_X12_takeKind _ _ (Rrl_I hS75 (by omega))) (fun v78 S77 hS77 => (K_ite (K_ite (K_xcI (fr_f_X12_puts _ _ _ _ hS77) (fun v82 S81 hS81 => (K_ite (K_ret hS81) K_non))) (K_ite (fr_f_X12_onKind_52 _ _ _ _ _ hS77) (fr_f_X12_onKind_52 _ _ _ _ _ hS77))) (K_ret hS77))))))
theorem fr_f_X12_statement_156 {S0 : xS} (N : Nat) (s0 : Int32) (S : xS) (hS : Rrl S0 S) : KFo Rrl S0 (f_X12_statement_156 N s0 S) := by
  unfold f_X12_statement_156
  exact (K_xcI (fr_f_X12_letOrPrint _ _ _ hS) (fun v94 S93 hS93 => (K_ite (K_ret hS93) K_non)))
theorem fr_f_X12_statement_177 {S0 : xS} (N : Nat) (s0 : Int32) (S : xS) (hS : Rrl S0 S) : KFo Rrl S0 (f_X12_statement_177 N s0 S) := by
  unfold f_X12_statement_177
  exact (K_xcI (fr_f_X12_condition _ _ _ hS) (fun v97 S96 hS96 => (K_ite (K_ret hS96) K_non)))
theorem fr_f_X12_statement {S0 : xS} (N : Nat) (S : xS) (hS : Rrl S0 S) : KFo Rrl S0 (f_X12_statement N S) := by
  unfold f_X12_statement
  exact (K_xcI (fr_f_X12_isSign _ _ _ hS) (fun v100 S99 hS99 => (K_ite (K_xin (fun _ => (K_ite (K_xcI (fr_f_X12_cursor _ _ _ hS99) (fun v105 S104 hS104 => (K_ite (K_ret hS104) K_non))) (K_ite (K_ite (K_xcV (fr_f_X12_emit _ _ _ hS99) (fun S109 hS109 => (K_xcI (fr_f_X12_newKind _ _ hS109) (fun v112 S111 hS111 => (K_ite (K_ret hS111) K_non))))) (K_ite (K_xcI (fr_f_X12_onKind _ _ _ hS99) (fun v116 S115 hS115 => (K_ite (K_ret hS115) K_non))) (K_ite (K_ite (fr_f_X12_statement_156 _ _ _ hS99) (fr_f_X12_statement_156 _ _ _ hS99)) (K_ite (K_xcI (fr_f_X12_each _ _ hS99) (fun v122 S121 hS121 => (K_ite (K_ret hS121) K_non))) (K_ite (K_ite (fr_f_X12_statement_177 _ _ _ hS99) (fr_f_X12_statement_177 _ _ _ hS99)) (K_ite (K_xcI (fr_f_X12_cursor _ _ _ hS99) (fun v128 S127 hS127 => (K_ite (K_ret hS127) K_non))) (K_xcI (fr_f_X12_wrong _ _ hS99) (fun v131 S130 hS130 => (K_ite (K_ret hS130) K_non))))))))) (K_xcI (fr_f_X12_wrong _ _ hS99) (fun v134 S133 hS133 => (K_ite (K_ret hS133) K_non)))))) K_non) (K_xcI (fr_f_X12_ends _ _ hS99) (fun v137 S136 hS136 => (K_ite (K_ret hS136) K_non))))))
theorem fr_f_X12_compile_79 {S0 : xS} (N : Nat) (s0 : Int32) (S : xS) (hS : Rrl S0 S) : KFo Rrl S0 (f_X12_compile_79 N s0 S) := by
  unfold f_X12_compile_79
  exact (K_ite (K_ret hS) K_non)
theorem fr_f_X12_compile_78 {S0 : xS} (N : Nat) (S : xS) (hS : Rrl S0 S) : KFo Rrl S0 (f_X12_compile_78 N S) := by
  unfold f_X12_compile_78
  exact (fr_f_X12_compile_79 _ _ _ hS)
theorem fr_f_X12_compile_74 {S0 : xS} (N : Nat) (S : xS) (hS : Rrl S0 S) : KFo Rrl S0 (f_X12_compile_74 N S) := by
  unfold f_X12_compile_74
  exact (fr_f_X12_compile_79 _ _ _ hS)
theorem fr_f_X12_compile_56 {S0 : xS} (N : Nat) (x1 : Int32) (S : xS) (hS : Rrl S0 S) : KFo Rrl S0 (f_X12_compile_56 N x1 S) := by
  unfold f_X12_compile_56
  exact (K_ite (fr_f_X12_compile_78 _ _ hS) (K_ite (fr_f_X12_compile_74 _ _ hS) (K_xcI (fr_f_X12_wrong _ _ hS) (fun v27 S26 hS26 => (K_ite (fr_f_X12_compile_78 _ _ hS26) (fr_f_X12_compile_74 _ _ hS26))))))
theorem fr_f_X12_compile_32 {S0 : xS} (N : Nat) : ∀ (n : Nat) (x1 : Int32) (S : xS), Rrl S0 S → KFo Rrl S0 (f_X12_compile_32 N n x1 S) := by
  intro n
  induction n with
  | zero => intro x1 S _; exact K_non
  | succ n ih =>
    intro x1 S hS
    rw [f_X12_compile_32.eq_2]
    exact (K_ite (fr_f_X12_compile_56 _ _ _ hS) (K_xin (fun _ => (K_ite (fr_f_X12_compile_56 _ _ _ hS) (K_xcI (fr_f_X12_statement _ _ hS) (fun v33 S32 hS32 => (ih _ _ hS32))))) K_non))
