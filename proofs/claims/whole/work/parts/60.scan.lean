/-! 60: the text is cut into tokens -/
def r_tx (Sc Sr : xS) (n : Nat) (b : Nat → Nat) : Prop := n ≤ 500 ∧ Sc.1 1 5 = nn n ∧ Sr.1 503 2 = nn n ∧ ∀ i, i < n → b i < 256 ∧ Sc.1 3 i = nn (b i) ∧ Sr.1 504 i = nn (b i)
def r_vo (Sc Sr : xS) : Prop := ∀ k, k < 20 → NmR (Sc.2.1 2 (k + 1)) (Sr.2.1 517 k)
def isL (c : Nat) : Prop := 97 ≤ c ∧ c ≤ 122
def isD (c : Nat) : Prop := 48 ≤ c ∧ c ≤ 57
def isB (c : Nat) : Prop := c = 32 ∨ c = 10
theorem ll_mull (a k : Nat) : ll a * (no_index (OfNat.ofNat k) : Int64) = ll (a * OfNat.ofNat k) := (Int64.ofNat_mul a k).symm
theorem l_mul_ll (a k : Nat) : (no_index (OfNat.ofNat k) : Int64) * ll a = ll (OfNat.ofNat k * a) := (Int64.ofNat_mul k a).symm
theorem ll_subl {a k : Nat} (h : OfNat.ofNat k ≤ a) : ll a - (no_index (OfNat.ofNat k) : Int64) = ll (a - OfNat.ofNat k) := (Int64.ofNat_sub a k h).symm
def ix (v : Int32) : List Int32 → Nat → Int32
  | [], _ => -1
  | a :: r, k => if a = v then nn k else ix v r (k + 1)
def sgk (c : Nat) : Nat := if c = 61 then 21 else if c = 60 then 22 else if c = 62 then 23 else if c = 43 then 24 else if c = 45 then 25 else if c = 42 then 26 else if c = 47 then 27 else if c = 37 then 28 else if c = 40 then 29 else if c = 41 then 30 else if c = 123 then 31 else if c = 125 then 32 else if c = 44 then 33 else if c = 59 then 34 else if c = 58 then 35 else if c = 46 then 36 else 42
set_option maxRecDepth 100000 in
theorem sgk_ix : ∀ c, c < 256 → (if ix ((nn c).toInt8.toInt32) (x_by 2) 0 = -1 then (42 : Int32) else 21 + ix ((nn c).toInt8.toInt32) (x_by 2) 0) = nn (sgk c) := by decide +kernel
set_option maxRecDepth 100000 in
theorem sgk_sg : ∀ c, c < 256 → ¬ sgk c = 42 → sg (sgk c) = c ∧ 21 ≤ sgk c ∧ sgk c ≤ 36 := by decide +kernel
set_option maxRecDepth 100000 in
theorem dbl_ix : ∀ c, c < 256 → ix ((nn c).toInt8.toInt32) (x_by 1) 0 = if c = 33 then nn 0 else if c = 60 then nn 1 else if c = 62 then nn 2 else -1 := by decide +kernel
section SC
variable {Sc Sr Sc' Sr' S : xS} {n c p N : Nat} {b : Nat → Nat}
theorem p_ix_l {i : Nat} (hi : i < 3) (v : Int32) (hl : (x_by i).length < 200) : ∀ (d k m : Nat), k + d = (x_by i).length → d < m → f_J1_indexOfChar_4cfef_7 N i m (nn (x_by i).length) v (nn k) S = some (rI (ix v ((x_by i).drop k) k) S) := by
  intro d
  induction d with
  | zero =>
    intro k m hk hm
    obtain ⟨m, rfl⟩ := Nat.exists_eq_succ_of_ne_zero (Nat.ne_of_gt (Nat.zero_lt_of_lt hm))
    rw [f_J1_indexOfChar_4cfef_7.eq_2, if_pos (by simp (disch := omega) only [nn_add, nn_addl, l_add_nn, nn_sub, nn_subl, nn_m1, nn_mull, nn_t, nn_i, l_t, nn_lt, nn_le, nn_eq, nn_ltl, l_lt_nn, nn_lel, l_le_nn, nn_eql, l_eql, nn_nm1, xin_nn, xin_l, m1_lt, m1_le, m1_p, m1_z, dlt_T, dlt_F, dle_T, dle_F, deq_T, deq_F, sI_c, sI_n, sI_J, sI_E, sJ_c, sJ_n, sJ_I, sJ_E, sE_I, sE_J, sE_E, xcI_i, xcJ_i, xcR_i, xcV_i, xcI_e, xcJ_e, xcR_e, xcV_e, if_true, if_false, ite_true, ite_false, true_and, and_true, false_and, and_false, or_true, true_or, or_false, false_or, not_true_eq_false, not_false_eq_true, eq_self, ne_eq, ↓reduceIte, Nat.reduceEqDiff, Nat.reduceLT, Nat.reduceLeDiff, Nat.reduceAdd, Nat.reduceMul, Nat.reduceSub, Int32.reduceLT, Int32.reduceLE, reduceCtorEq]), List.drop_of_length_le (by omega)]
    rfl
  | succ d ih =>
    intro k m hk hm
    obtain ⟨m, rfl⟩ := Nat.exists_eq_succ_of_ne_zero (Nat.ne_of_gt (Nat.zero_lt_of_lt hm))
    have hk2 : k < (x_by i).length := by omega
    have e3 : (x_by i).getD k 0 = (x_by i)[k] := by rw [List.getD_eq_getElem?_getD, List.getElem?_eq_getElem hk2]; rfl
    rw [f_J1_indexOfChar_4cfef_7.eq_2, if_neg (by simp (disch := omega) only [nn_add, nn_addl, l_add_nn, nn_sub, nn_subl, nn_m1, nn_mull, nn_t, nn_i, l_t, nn_lt, nn_le, nn_eq, nn_ltl, l_lt_nn, nn_lel, l_le_nn, nn_eql, l_eql, nn_nm1, xin_nn, xin_l, m1_lt, m1_le, m1_p, m1_z, dlt_T, dlt_F, dle_T, dle_F, deq_T, deq_F, sI_c, sI_n, sI_J, sI_E, sJ_c, sJ_n, sJ_I, sJ_E, sE_I, sE_J, sE_E, xcI_i, xcJ_i, xcR_i, xcV_i, xcI_e, xcJ_e, xcR_e, xcV_e, if_true, if_false, ite_true, ite_false, true_and, and_true, false_and, and_false, or_true, true_or, or_false, false_or, not_true_eq_false, not_false_eq_true, eq_self, ne_eq, ↓reduceIte, Nat.reduceEqDiff, Nat.reduceLT, Nat.reduceLeDiff, Nat.reduceAdd, Nat.reduceMul, Nat.reduceSub, Int32.reduceLT, Int32.reduceLE, reduceCtorEq]), if_pos hi, if_pos ((xin_nn (by omega)).mpr hk2), nn_t (by omega), e3, List.drop_eq_getElem_cons hk2]
    unfold ix
    by_cases q : (x_by i)[k] = v
    · rw [if_pos q, if_pos q]
    · rw [if_neg q, if_neg q, nn_addl]
      exact ih (k + 1) m (by omega) (by omega)
theorem p_ix (hN : 1000 < N) {i c : Nat} (hi : i = 1 ∨ i = 2) (hc : c < 256) : f_J0_indexOf_0f7a4 N i (nn c) S = some (rI (ix ((nn c).toInt8.toInt32) (x_by i) 0) S) := by
  have hl : (x_by i).length = 3 ∨ (x_by i).length = 16 := by
    rcases hi with rfl | rfl
    · exact Or.inl rfl
    · exact Or.inr rfl
  have hi3 : i < 3 := by omega
  have h1 : f_J0_isLatin1_aae02 N i S = some (rI 1 S) := by
    unfold f_J0_isLatin1_aae02
    rw [if_neg (by decide), if_pos hi3, if_pos rfl]
    exact if_pos (Or.inr rfl)
  have h2 : f_J0_length_8abf5 N i S = some (rI (nn (x_by i).length) S) := by
    have h3 : f_J0_coder_7d493 N i S = some (rI 0 S) := by
      unfold f_J0_coder_7d493
      rw [if_neg (by decide), if_pos hi3]
      exact if_pos rfl
    unfold f_J0_length_8abf5
    rw [if_pos hi3, xcI_of h3]
    rcases hl with z | z <;> rw [z] <;> rfl
  have h4 : f_J1_canEncode_9a6ad N (nn c) S = some (rI 1 S) := by
    simp (disch := omega) only [nn_add, nn_addl, l_add_nn, nn_sub, nn_subl, nn_m1, nn_mull, nn_t, nn_i, l_t, nn_lt, nn_le, nn_eq, nn_ltl, l_lt_nn, nn_lel, l_le_nn, nn_eql, l_eql, nn_nm1, xin_nn, xin_l, m1_lt, m1_le, m1_p, m1_z, dlt_T, dlt_F, dle_T, dle_F, deq_T, deq_F, sI_c, sI_n, sI_J, sI_E, sJ_c, sJ_n, sJ_I, sJ_E, sE_I, sE_J, sE_E, xcI_i, xcJ_i, xcR_i, xcV_i, xcI_e, xcJ_e, xcR_e, xcV_e, if_true, if_false, ite_true, ite_false, true_and, and_true, false_and, and_false, or_true, true_or, or_false, false_or, not_true_eq_false, not_false_eq_true, eq_self, ne_eq, ↓reduceIte, Nat.reduceEqDiff, Nat.reduceLT, Nat.reduceLeDiff, Nat.reduceAdd, Nat.reduceMul, Nat.reduceSub, Int32.reduceLT, Int32.reduceLE, reduceCtorEq, f_J1_canEncode_9a6ad, f_J1_canEncode_9a6ad_16, xbo]
  have h5 : f_J9_max_7cf53 N 0 0 S = some (rI 0 S) := by
    unfold f_J9_max_7cf53
    rw [if_neg (by decide)]
    rfl
  have h6 : f_J9_min_7cf53 N (nn (x_by i).length) (Int32.ofNat (x_by i).length) S = some (rI (nn (x_by i).length) S) := by
    unfold f_J9_min_7cf53
    rcases hl with z | z <;> rw [z, if_neg (by decide)] <;> rfl
  have h7 : f_J1_indexOfChar_4cfef N i (nn c) 0 (nn (x_by i).length) S = some (rI (ix ((nn c).toInt8.toInt32) (x_by i) 0) S) := by
    unfold f_J1_indexOfChar_4cfef
    exact p_ix_l hi3 _ (by omega) (x_by i).length 0 N (by omega) (by omega)
  have h8 : f_J1_indexOf_4cfef N i (nn c) 0 (nn (x_by i).length) S = some (rI (ix ((nn c).toInt8.toInt32) (x_by i) 0) S) := by
    unfold f_J1_indexOf_4cfef
    rw [xcI_of h4, if_neg (by decide), xcI_of h5, if_pos hi3, xcI_of h6, if_pos (by rcases hl with z | z <;> rw [z] <;> decide), xcI_of h7]
  unfold f_J0_indexOf_0f7a4
  rw [if_pos hi3]
  have h9 : f_J0_indexOf_7cf53 N i (nn c) 0 S = some (rI (ix ((nn c).toInt8.toInt32) (x_by i) 0) S) := by
    unfold f_J0_indexOf_7cf53
    rw [if_pos hi3, xcI_of h1, if_neg (by decide), xcI_of h2, xcI_of h8]
    rfl
  rw [xcI_of h9]
theorem p_isL1 {c : Nat} (h : isL c) : f_X9_isLetter N (nn c) S = some (rI 1 S) ∧ f_X12_letter N (nn c) S = some (rI 1 S) := by
  unfold isL at h
  exact ⟨by simp (disch := omega) only [nn_add, nn_addl, l_add_nn, nn_sub, nn_subl, nn_m1, nn_mull, nn_t, nn_i, l_t, nn_lt, nn_le, nn_eq, nn_ltl, l_lt_nn, nn_lel, l_le_nn, nn_eql, l_eql, nn_nm1, xin_nn, xin_l, m1_lt, m1_le, m1_p, m1_z, dlt_T, dlt_F, dle_T, dle_F, deq_T, deq_F, sI_c, sI_n, sI_J, sI_E, sJ_c, sJ_n, sJ_I, sJ_E, sE_I, sE_J, sE_E, xcI_i, xcJ_i, xcR_i, xcV_i, xcI_e, xcJ_e, xcR_e, xcV_e, if_true, if_false, ite_true, ite_false, true_and, and_true, false_and, and_false, or_true, true_or, or_false, false_or, not_true_eq_false, not_false_eq_true, eq_self, ne_eq, ↓reduceIte, Nat.reduceEqDiff, Nat.reduceLT, Nat.reduceLeDiff, Nat.reduceAdd, Nat.reduceMul, Nat.reduceSub, Int32.reduceLT, Int32.reduceLE, reduceCtorEq, f_X9_isLetter, f_X9_isLetter_17, xbo], by simp (disch := omega) only [nn_add, nn_addl, l_add_nn, nn_sub, nn_subl, nn_m1, nn_mull, nn_t, nn_i, l_t, nn_lt, nn_le, nn_eq, nn_ltl, l_lt_nn, nn_lel, l_le_nn, nn_eql, l_eql, nn_nm1, xin_nn, xin_l, m1_lt, m1_le, m1_p, m1_z, dlt_T, dlt_F, dle_T, dle_F, deq_T, deq_F, sI_c, sI_n, sI_J, sI_E, sJ_c, sJ_n, sJ_I, sJ_E, sE_I, sE_J, sE_E, xcI_i, xcJ_i, xcR_i, xcV_i, xcI_e, xcJ_e, xcR_e, xcV_e, if_true, if_false, ite_true, ite_false, true_and, and_true, false_and, and_false, or_true, true_or, or_false, false_or, not_true_eq_false, not_false_eq_true, eq_self, ne_eq, ↓reduceIte, Nat.reduceEqDiff, Nat.reduceLT, Nat.reduceLeDiff, Nat.reduceAdd, Nat.reduceMul, Nat.reduceSub, Int32.reduceLT, Int32.reduceLE, reduceCtorEq, f_X12_letter, f_X12_letter_17, xbo]⟩
theorem p_isL0 {c : Nat} (h : ¬ isL c) (hc : c < 256) : f_X9_isLetter N (nn c) S = some (rI 0 S) ∧ f_X12_letter N (nn c) S = some (rI 0 S) := by
  unfold isL at h
  rcases Nat.lt_or_ge c 97 with z | z
  · exact ⟨by simp (disch := omega) only [nn_add, nn_addl, l_add_nn, nn_sub, nn_subl, nn_m1, nn_mull, nn_t, nn_i, l_t, nn_lt, nn_le, nn_eq, nn_ltl, l_lt_nn, nn_lel, l_le_nn, nn_eql, l_eql, nn_nm1, xin_nn, xin_l, m1_lt, m1_le, m1_p, m1_z, dlt_T, dlt_F, dle_T, dle_F, deq_T, deq_F, sI_c, sI_n, sI_J, sI_E, sJ_c, sJ_n, sJ_I, sJ_E, sE_I, sE_J, sE_E, xcI_i, xcJ_i, xcR_i, xcV_i, xcI_e, xcJ_e, xcR_e, xcV_e, if_true, if_false, ite_true, ite_false, true_and, and_true, false_and, and_false, or_true, true_or, or_false, false_or, not_true_eq_false, not_false_eq_true, eq_self, ne_eq, ↓reduceIte, Nat.reduceEqDiff, Nat.reduceLT, Nat.reduceLeDiff, Nat.reduceAdd, Nat.reduceMul, Nat.reduceSub, Int32.reduceLT, Int32.reduceLE, reduceCtorEq, f_X9_isLetter, f_X9_isLetter_16, f_X9_isLetter_17, xbo], by simp (disch := omega) only [nn_add, nn_addl, l_add_nn, nn_sub, nn_subl, nn_m1, nn_mull, nn_t, nn_i, l_t, nn_lt, nn_le, nn_eq, nn_ltl, l_lt_nn, nn_lel, l_le_nn, nn_eql, l_eql, nn_nm1, xin_nn, xin_l, m1_lt, m1_le, m1_p, m1_z, dlt_T, dlt_F, dle_T, dle_F, deq_T, deq_F, sI_c, sI_n, sI_J, sI_E, sJ_c, sJ_n, sJ_I, sJ_E, sE_I, sE_J, sE_E, xcI_i, xcJ_i, xcR_i, xcV_i, xcI_e, xcJ_e, xcR_e, xcV_e, if_true, if_false, ite_true, ite_false, true_and, and_true, false_and, and_false, or_true, true_or, or_false, false_or, not_true_eq_false, not_false_eq_true, eq_self, ne_eq, ↓reduceIte, Nat.reduceEqDiff, Nat.reduceLT, Nat.reduceLeDiff, Nat.reduceAdd, Nat.reduceMul, Nat.reduceSub, Int32.reduceLT, Int32.reduceLE, reduceCtorEq, f_X12_letter, f_X12_letter_16, f_X12_letter_17, xbo]⟩
  · exact ⟨by simp (disch := omega) only [nn_add, nn_addl, l_add_nn, nn_sub, nn_subl, nn_m1, nn_mull, nn_t, nn_i, l_t, nn_lt, nn_le, nn_eq, nn_ltl, l_lt_nn, nn_lel, l_le_nn, nn_eql, l_eql, nn_nm1, xin_nn, xin_l, m1_lt, m1_le, m1_p, m1_z, dlt_T, dlt_F, dle_T, dle_F, deq_T, deq_F, sI_c, sI_n, sI_J, sI_E, sJ_c, sJ_n, sJ_I, sJ_E, sE_I, sE_J, sE_E, xcI_i, xcJ_i, xcR_i, xcV_i, xcI_e, xcJ_e, xcR_e, xcV_e, if_true, if_false, ite_true, ite_false, true_and, and_true, false_and, and_false, or_true, true_or, or_false, false_or, not_true_eq_false, not_false_eq_true, eq_self, ne_eq, ↓reduceIte, Nat.reduceEqDiff, Nat.reduceLT, Nat.reduceLeDiff, Nat.reduceAdd, Nat.reduceMul, Nat.reduceSub, Int32.reduceLT, Int32.reduceLE, reduceCtorEq, f_X9_isLetter, f_X9_isLetter_16, f_X9_isLetter_17, xbo], by simp (disch := omega) only [nn_add, nn_addl, l_add_nn, nn_sub, nn_subl, nn_m1, nn_mull, nn_t, nn_i, l_t, nn_lt, nn_le, nn_eq, nn_ltl, l_lt_nn, nn_lel, l_le_nn, nn_eql, l_eql, nn_nm1, xin_nn, xin_l, m1_lt, m1_le, m1_p, m1_z, dlt_T, dlt_F, dle_T, dle_F, deq_T, deq_F, sI_c, sI_n, sI_J, sI_E, sJ_c, sJ_n, sJ_I, sJ_E, sE_I, sE_J, sE_E, xcI_i, xcJ_i, xcR_i, xcV_i, xcI_e, xcJ_e, xcR_e, xcV_e, if_true, if_false, ite_true, ite_false, true_and, and_true, false_and, and_false, or_true, true_or, or_false, false_or, not_true_eq_false, not_false_eq_true, eq_self, ne_eq, ↓reduceIte, Nat.reduceEqDiff, Nat.reduceLT, Nat.reduceLeDiff, Nat.reduceAdd, Nat.reduceMul, Nat.reduceSub, Int32.reduceLT, Int32.reduceLE, reduceCtorEq, f_X12_letter, f_X12_letter_16, f_X12_letter_17, xbo]⟩
theorem p_isD1 {c : Nat} (h : isD c) : f_X9_isDigit N (nn c) S = some (rI 1 S) ∧ f_X12_digit N (nn c) S = some (rI 1 S) := by
  unfold isD at h
  exact ⟨by simp (disch := omega) only [nn_add, nn_addl, l_add_nn, nn_sub, nn_subl, nn_m1, nn_mull, nn_t, nn_i, l_t, nn_lt, nn_le, nn_eq, nn_ltl, l_lt_nn, nn_lel, l_le_nn, nn_eql, l_eql, nn_nm1, xin_nn, xin_l, m1_lt, m1_le, m1_p, m1_z, dlt_T, dlt_F, dle_T, dle_F, deq_T, deq_F, sI_c, sI_n, sI_J, sI_E, sJ_c, sJ_n, sJ_I, sJ_E, sE_I, sE_J, sE_E, xcI_i, xcJ_i, xcR_i, xcV_i, xcI_e, xcJ_e, xcR_e, xcV_e, if_true, if_false, ite_true, ite_false, true_and, and_true, false_and, and_false, or_true, true_or, or_false, false_or, not_true_eq_false, not_false_eq_true, eq_self, ne_eq, ↓reduceIte, Nat.reduceEqDiff, Nat.reduceLT, Nat.reduceLeDiff, Nat.reduceAdd, Nat.reduceMul, Nat.reduceSub, Int32.reduceLT, Int32.reduceLE, reduceCtorEq, f_X9_isDigit, f_X9_isDigit_17, xbo], by simp (disch := omega) only [nn_add, nn_addl, l_add_nn, nn_sub, nn_subl, nn_m1, nn_mull, nn_t, nn_i, l_t, nn_lt, nn_le, nn_eq, nn_ltl, l_lt_nn, nn_lel, l_le_nn, nn_eql, l_eql, nn_nm1, xin_nn, xin_l, m1_lt, m1_le, m1_p, m1_z, dlt_T, dlt_F, dle_T, dle_F, deq_T, deq_F, sI_c, sI_n, sI_J, sI_E, sJ_c, sJ_n, sJ_I, sJ_E, sE_I, sE_J, sE_E, xcI_i, xcJ_i, xcR_i, xcV_i, xcI_e, xcJ_e, xcR_e, xcV_e, if_true, if_false, ite_true, ite_false, true_and, and_true, false_and, and_false, or_true, true_or, or_false, false_or, not_true_eq_false, not_false_eq_true, eq_self, ne_eq, ↓reduceIte, Nat.reduceEqDiff, Nat.reduceLT, Nat.reduceLeDiff, Nat.reduceAdd, Nat.reduceMul, Nat.reduceSub, Int32.reduceLT, Int32.reduceLE, reduceCtorEq, f_X12_digit, f_X12_digit_17, xbo]⟩
theorem p_isD0 {c : Nat} (h : ¬ isD c) (hc : c < 256) : f_X9_isDigit N (nn c) S = some (rI 0 S) ∧ f_X12_digit N (nn c) S = some (rI 0 S) := by
  unfold isD at h
  rcases Nat.lt_or_ge c 48 with z | z
  · exact ⟨by simp (disch := omega) only [nn_add, nn_addl, l_add_nn, nn_sub, nn_subl, nn_m1, nn_mull, nn_t, nn_i, l_t, nn_lt, nn_le, nn_eq, nn_ltl, l_lt_nn, nn_lel, l_le_nn, nn_eql, l_eql, nn_nm1, xin_nn, xin_l, m1_lt, m1_le, m1_p, m1_z, dlt_T, dlt_F, dle_T, dle_F, deq_T, deq_F, sI_c, sI_n, sI_J, sI_E, sJ_c, sJ_n, sJ_I, sJ_E, sE_I, sE_J, sE_E, xcI_i, xcJ_i, xcR_i, xcV_i, xcI_e, xcJ_e, xcR_e, xcV_e, if_true, if_false, ite_true, ite_false, true_and, and_true, false_and, and_false, or_true, true_or, or_false, false_or, not_true_eq_false, not_false_eq_true, eq_self, ne_eq, ↓reduceIte, Nat.reduceEqDiff, Nat.reduceLT, Nat.reduceLeDiff, Nat.reduceAdd, Nat.reduceMul, Nat.reduceSub, Int32.reduceLT, Int32.reduceLE, reduceCtorEq, f_X9_isDigit, f_X9_isDigit_16, f_X9_isDigit_17, xbo], by simp (disch := omega) only [nn_add, nn_addl, l_add_nn, nn_sub, nn_subl, nn_m1, nn_mull, nn_t, nn_i, l_t, nn_lt, nn_le, nn_eq, nn_ltl, l_lt_nn, nn_lel, l_le_nn, nn_eql, l_eql, nn_nm1, xin_nn, xin_l, m1_lt, m1_le, m1_p, m1_z, dlt_T, dlt_F, dle_T, dle_F, deq_T, deq_F, sI_c, sI_n, sI_J, sI_E, sJ_c, sJ_n, sJ_I, sJ_E, sE_I, sE_J, sE_E, xcI_i, xcJ_i, xcR_i, xcV_i, xcI_e, xcJ_e, xcR_e, xcV_e, if_true, if_false, ite_true, ite_false, true_and, and_true, false_and, and_false, or_true, true_or, or_false, false_or, not_true_eq_false, not_false_eq_true, eq_self, ne_eq, ↓reduceIte, Nat.reduceEqDiff, Nat.reduceLT, Nat.reduceLeDiff, Nat.reduceAdd, Nat.reduceMul, Nat.reduceSub, Int32.reduceLT, Int32.reduceLE, reduceCtorEq, f_X12_digit, f_X12_digit_16, f_X12_digit_17, xbo]⟩
  · exact ⟨by simp (disch := omega) only [nn_add, nn_addl, l_add_nn, nn_sub, nn_subl, nn_m1, nn_mull, nn_t, nn_i, l_t, nn_lt, nn_le, nn_eq, nn_ltl, l_lt_nn, nn_lel, l_le_nn, nn_eql, l_eql, nn_nm1, xin_nn, xin_l, m1_lt, m1_le, m1_p, m1_z, dlt_T, dlt_F, dle_T, dle_F, deq_T, deq_F, sI_c, sI_n, sI_J, sI_E, sJ_c, sJ_n, sJ_I, sJ_E, sE_I, sE_J, sE_E, xcI_i, xcJ_i, xcR_i, xcV_i, xcI_e, xcJ_e, xcR_e, xcV_e, if_true, if_false, ite_true, ite_false, true_and, and_true, false_and, and_false, or_true, true_or, or_false, false_or, not_true_eq_false, not_false_eq_true, eq_self, ne_eq, ↓reduceIte, Nat.reduceEqDiff, Nat.reduceLT, Nat.reduceLeDiff, Nat.reduceAdd, Nat.reduceMul, Nat.reduceSub, Int32.reduceLT, Int32.reduceLE, reduceCtorEq, f_X9_isDigit, f_X9_isDigit_16, f_X9_isDigit_17, xbo], by simp (disch := omega) only [nn_add, nn_addl, l_add_nn, nn_sub, nn_subl, nn_m1, nn_mull, nn_t, nn_i, l_t, nn_lt, nn_le, nn_eq, nn_ltl, l_lt_nn, nn_lel, l_le_nn, nn_eql, l_eql, nn_nm1, xin_nn, xin_l, m1_lt, m1_le, m1_p, m1_z, dlt_T, dlt_F, dle_T, dle_F, deq_T, deq_F, sI_c, sI_n, sI_J, sI_E, sJ_c, sJ_n, sJ_I, sJ_E, sE_I, sE_J, sE_E, xcI_i, xcJ_i, xcR_i, xcV_i, xcI_e, xcJ_e, xcR_e, xcV_e, if_true, if_false, ite_true, ite_false, true_and, and_true, false_and, and_false, or_true, true_or, or_false, false_or, not_true_eq_false, not_false_eq_true, eq_self, ne_eq, ↓reduceIte, Nat.reduceEqDiff, Nat.reduceLT, Nat.reduceLeDiff, Nat.reduceAdd, Nat.reduceMul, Nat.reduceSub, Int32.reduceLT, Int32.reduceLE, reduceCtorEq, f_X12_digit, f_X12_digit_16, f_X12_digit_17, xbo]⟩
theorem p_m1 : f_X12_letter N (-1) S = some (rI 0 S) ∧ f_X12_digit N (-1) S = some (rI 0 S) := by
  refine ⟨?_, ?_⟩
  · unfold f_X12_letter
    rw [if_pos (by decide)]
    unfold f_X12_letter_16 f_X12_letter_17
    exact if_pos (Or.inl rfl)
  · unfold f_X12_digit
    rw [if_pos (by decide)]
    unfold f_X12_digit_16 f_X12_digit_17
    exact if_pos (Or.inl rfl)
theorem p_at1 (hx : r_tx Sc Sr n b) {q : Nat} (h : q < n) : f_X12_byteAt N (nn q) Sr = some (rI (nn (b q)) Sr) := by
  obtain ⟨x1, x2, x3, x4⟩ := hx
  have := (x4 q h).2.2
  simp (disch := omega) only [nn_add, nn_addl, l_add_nn, nn_sub, nn_subl, nn_m1, nn_mull, nn_t, nn_i, l_t, nn_lt, nn_le, nn_eq, nn_ltl, l_lt_nn, nn_lel, l_le_nn, nn_eql, l_eql, nn_nm1, xin_nn, xin_l, m1_lt, m1_le, m1_p, m1_z, dlt_T, dlt_F, dle_T, dle_F, deq_T, deq_F, sI_c, sI_n, sI_J, sI_E, sJ_c, sJ_n, sJ_I, sJ_E, sE_I, sE_J, sE_E, xcI_i, xcJ_i, xcR_i, xcV_i, xcI_e, xcJ_e, xcR_e, xcV_e, if_true, if_false, ite_true, ite_false, true_and, and_true, false_and, and_false, or_true, true_or, or_false, false_or, not_true_eq_false, not_false_eq_true, eq_self, ne_eq, ↓reduceIte, Nat.reduceEqDiff, Nat.reduceLT, Nat.reduceLeDiff, Nat.reduceAdd, Nat.reduceMul, Nat.reduceSub, Int32.reduceLT, Int32.reduceLE, reduceCtorEq, f_X12_byteAt, f_X12_byteAt_18, x3, this]
theorem p_at0 (hx : r_tx Sc Sr n b) {q : Nat} (h : n ≤ q) (h2 : q < 1000) : f_X12_byteAt N (nn q) Sr = some (rI (-1) Sr) := by
  obtain ⟨x1, x2, x3, x4⟩ := hx
  simp (disch := omega) only [nn_add, nn_addl, l_add_nn, nn_sub, nn_subl, nn_m1, nn_mull, nn_t, nn_i, l_t, nn_lt, nn_le, nn_eq, nn_ltl, l_lt_nn, nn_lel, l_le_nn, nn_eql, l_eql, nn_nm1, xin_nn, xin_l, m1_lt, m1_le, m1_p, m1_z, dlt_T, dlt_F, dle_T, dle_F, deq_T, deq_F, sI_c, sI_n, sI_J, sI_E, sJ_c, sJ_n, sJ_I, sJ_E, sE_I, sE_J, sE_E, xcI_i, xcJ_i, xcR_i, xcV_i, xcI_e, xcJ_e, xcR_e, xcV_e, if_true, if_false, ite_true, ite_false, true_and, and_true, false_and, and_false, or_true, true_or, or_false, false_or, not_true_eq_false, not_false_eq_true, eq_self, ne_eq, ↓reduceIte, Nat.reduceEqDiff, Nat.reduceLT, Nat.reduceLeDiff, Nat.reduceAdd, Nat.reduceMul, Nat.reduceSub, Int32.reduceLT, Int32.reduceLE, reduceCtorEq, f_X12_byteAt, f_X12_byteAt_18, x3]
theorem p_nm_l (hx : r_tx Sc Sr n b) (c2 : Sr.1 503 18 = nn c) (hc : c < 150) (p : Nat) : ∀ (d q m m2 : Nat) (y y' : Int64) (L : List Nat), q + d = n → p + L.length = q → lets L → (L.length ≤ 8 → y = ll (vr 32 L) ∧ y' = ll (vr 27 L)) → d < m → d < m2 → ∃ e L2 y2 y2', q ≤ e ∧ e ≤ n ∧ p + L2.length = e ∧ lets L2 ∧ (L2.length ≤ 8 → y2 = ll (vr 32 L2) ∧ y2' = ll (vr 27 L2)) ∧ (q < n → isL (b q) → q < e) ∧ f_X9_cutName_5 N m (nn p) y (nn q) Sc = f_X9_cutName_45 N (nn p) y2 (nn e) Sc ∧ f_X12_token_28 N m2 (nn p) (nn q) y' Sr = f_X12_token_85 N N (nn p) (nn e) y2' 0 (sI Sr 514 c 1) := by
  obtain ⟨x1, x2, x3, x4⟩ := hx
  have x152 : xin (nn c) 152 := (xin_nn (by omega)).mpr (by omega)
  have ec : (nn c).toNatClampNeg = c := nn_t (by omega)
  intro d
  induction d with
  | zero =>
    intro q m m2 y y' L hq hp hL hy hm hm2
    obtain ⟨m, rfl⟩ := Nat.exists_eq_succ_of_ne_zero (Nat.ne_of_gt (Nat.zero_lt_of_lt hm))
    obtain ⟨m2, rfl⟩ := Nat.exists_eq_succ_of_ne_zero (Nat.ne_of_gt (Nat.zero_lt_of_lt hm2))
    refine ⟨q, L, y, y', Nat.le_refl _, by omega, hp, hL, hy, fun z => by omega, ?_, ?_⟩
    · rw [f_X9_cutName_5.eq_2, x2, if_pos (by simp (disch := omega) only [nn_add, nn_addl, l_add_nn, nn_sub, nn_subl, nn_m1, nn_mull, nn_t, nn_i, l_t, nn_lt, nn_le, nn_eq, nn_ltl, l_lt_nn, nn_lel, l_le_nn, nn_eql, l_eql, nn_nm1, xin_nn, xin_l, m1_lt, m1_le, m1_p, m1_z, dlt_T, dlt_F, dle_T, dle_F, deq_T, deq_F, sI_c, sI_n, sI_J, sI_E, sJ_c, sJ_n, sJ_I, sJ_E, sE_I, sE_J, sE_E, xcI_i, xcJ_i, xcR_i, xcV_i, xcI_e, xcJ_e, xcR_e, xcV_e, if_true, if_false, ite_true, ite_false, true_and, and_true, false_and, and_false, or_true, true_or, or_false, false_or, not_true_eq_false, not_false_eq_true, eq_self, ne_eq, ↓reduceIte, Nat.reduceEqDiff, Nat.reduceLT, Nat.reduceLeDiff, Nat.reduceAdd, Nat.reduceMul, Nat.reduceSub, Int32.reduceLT, Int32.reduceLE, reduceCtorEq])]
    · rw [f_X12_token_28.eq_2, xcI_of (p_at0 ⟨x1, x2, x3, x4⟩ (by omega) (by omega)), xcI_of p_m1.1, if_pos rfl, c2, if_pos x152, ec]
  | succ d ih =>
    intro q m m2 y y' L hq hp hL hy hm hm2
    obtain ⟨m, rfl⟩ := Nat.exists_eq_succ_of_ne_zero (Nat.ne_of_gt (Nat.zero_lt_of_lt hm))
    obtain ⟨m2, rfl⟩ := Nat.exists_eq_succ_of_ne_zero (Nat.ne_of_gt (Nat.zero_lt_of_lt hm2))
    obtain ⟨y1, y2, y3⟩ := x4 q (by omega)
    have hat := p_at1 (N := N) ⟨x1, x2, x3, x4⟩ (show q < n by omega)
    have x500 : xin (nn q) 500 := (xin_nn (by omega)).mpr (by omega)
    have eq : (nn q).toNatClampNeg = q := nn_t (by omega)
    have cls : f_X9_cutName_5 N (m + 1) (nn p) y (nn q) Sc = xcI (f_X9_isLetter N (nn (b q)) Sc) (fun v33 S32 => if v33 = 0 then f_X9_cutName_45 N (nn p) y (nn q) S32 else xcJ (f_X9_longer N y (S32.1 3 q) S32) (fun v36 S35 => f_X9_cutName_5 N m (nn p) v36 (nn q + 1) S35)) := by
      rw [f_X9_cutName_5.eq_2, x2, if_neg (by simp (disch := omega) only [nn_add, nn_addl, l_add_nn, nn_sub, nn_subl, nn_m1, nn_mull, nn_t, nn_i, l_t, nn_lt, nn_le, nn_eq, nn_ltl, l_lt_nn, nn_lel, l_le_nn, nn_eql, l_eql, nn_nm1, xin_nn, xin_l, m1_lt, m1_le, m1_p, m1_z, dlt_T, dlt_F, dle_T, dle_F, deq_T, deq_F, sI_c, sI_n, sI_J, sI_E, sJ_c, sJ_n, sJ_I, sJ_E, sE_I, sE_J, sE_E, xcI_i, xcJ_i, xcR_i, xcV_i, xcI_e, xcJ_e, xcR_e, xcV_e, if_true, if_false, ite_true, ite_false, true_and, and_true, false_and, and_false, or_true, true_or, or_false, false_or, not_true_eq_false, not_false_eq_true, eq_self, ne_eq, ↓reduceIte, Nat.reduceEqDiff, Nat.reduceLT, Nat.reduceLeDiff, Nat.reduceAdd, Nat.reduceMul, Nat.reduceSub, Int32.reduceLT, Int32.reduceLE, reduceCtorEq]), if_pos x500, eq, y2]
    have ref : f_X12_token_28 N (m2 + 1) (nn p) (nn q) y' Sr = xcI (f_X12_letter N (nn (b q)) Sr) (fun v162 S161 => if v162 = 0 then if xin (S161.1 503 18) 152 then f_X12_token_85 N N (nn p) (nn q) y' 0 (sI S161 514 ((S161.1 503 18).toNatClampNeg) 1) else none else if (nn p + 9) ≤ nn q then f_X12_token_66 N (f_X12_token_28 N m2) (nn p) (nn q) y' S161 else xcI (f_X12_byteAt N (nn q) S161) (fun v167 S166 => f_X12_token_66 N (f_X12_token_28 N m2) (nn p) (nn q) (((y' * 27) + ((v167 : Int32).toInt64)) - 96) S166)) := by
      rw [f_X12_token_28.eq_2, xcI_of hat]
    by_cases hl : isL (b q)
    · have hl2 : 97 ≤ b q ∧ b q ≤ 122 := hl
      rw [xcI_of (p_isL1 hl).1, if_neg (by decide), y2] at cls
      rw [xcI_of (p_isL1 hl).2, if_neg (by decide)] at ref
      have ed : ((nn (b q) - 97) + 1 : Int32).toInt64 = ll (b q - 96) := by
        rw [nn_subl (k := nat_lit 97) (by show 97 ≤ b q; omega), nn_addl, nn_ll (by show b q - 97 + 1 < 2147483648; omega)]
        congr 1
        show b q - 97 + 1 = b q - 96
        omega
      have cls2 : f_X9_cutName_5 N (m + 1) (nn p) y (nn q) Sc = f_X9_cutName_5 N m (nn p) (y * 32 + ll (b q - 96)) (nn (q + 1)) Sc := by
        rw [cls]
        unfold f_X9_longer
        rw [xcJ_i, ed, nn_addl]
      have ref2 : f_X12_token_28 N (m2 + 1) (nn p) (nn q) y' Sr = f_X12_token_28 N m2 (nn p) (nn (q + 1)) (if p + 9 ≤ q then y' else y' * 27 + ll (b q) - 96) Sr := by
        rw [ref]
        by_cases h9 : p + 9 ≤ q
        · rw [if_pos (by simp (disch := omega) only [nn_add, nn_addl, l_add_nn, nn_sub, nn_subl, nn_m1, nn_mull, nn_t, nn_i, l_t, nn_lt, nn_le, nn_eq, nn_ltl, l_lt_nn, nn_lel, l_le_nn, nn_eql, l_eql, nn_nm1, xin_nn, xin_l, m1_lt, m1_le, m1_p, m1_z, dlt_T, dlt_F, dle_T, dle_F, deq_T, deq_F, sI_c, sI_n, sI_J, sI_E, sJ_c, sJ_n, sJ_I, sJ_E, sE_I, sE_J, sE_E, xcI_i, xcJ_i, xcR_i, xcV_i, xcI_e, xcJ_e, xcR_e, xcV_e, if_true, if_false, ite_true, ite_false, true_and, and_true, false_and, and_false, or_true, true_or, or_false, false_or, not_true_eq_false, not_false_eq_true, eq_self, ne_eq, ↓reduceIte, Nat.reduceEqDiff, Nat.reduceLT, Nat.reduceLeDiff, Nat.reduceAdd, Nat.reduceMul, Nat.reduceSub, Int32.reduceLT, Int32.reduceLE, reduceCtorEq]), if_pos h9]
          unfold f_X12_token_66
          rw [nn_addl]
        · rw [if_neg (by simp (disch := omega) only [nn_add, nn_addl, l_add_nn, nn_sub, nn_subl, nn_m1, nn_mull, nn_t, nn_i, l_t, nn_lt, nn_le, nn_eq, nn_ltl, l_lt_nn, nn_lel, l_le_nn, nn_eql, l_eql, nn_nm1, xin_nn, xin_l, m1_lt, m1_le, m1_p, m1_z, dlt_T, dlt_F, dle_T, dle_F, deq_T, deq_F, sI_c, sI_n, sI_J, sI_E, sJ_c, sJ_n, sJ_I, sJ_E, sE_I, sE_J, sE_E, xcI_i, xcJ_i, xcR_i, xcV_i, xcI_e, xcJ_e, xcR_e, xcV_e, if_true, if_false, ite_true, ite_false, true_and, and_true, false_and, and_false, or_true, true_or, or_false, false_or, not_true_eq_false, not_false_eq_true, eq_self, ne_eq, ↓reduceIte, Nat.reduceEqDiff, Nat.reduceLT, Nat.reduceLeDiff, Nat.reduceAdd, Nat.reduceMul, Nat.reduceSub, Int32.reduceLT, Int32.reduceLE, reduceCtorEq]), if_neg h9, xcI_of hat]
          unfold f_X12_token_66
          rw [nn_addl, nn_ll (by omega)]
      obtain ⟨e, L2, z2, z2', k1, k2, k3, k4, k5, k6, k7, k8⟩ := ih (q + 1) m m2 (y * 32 + ll (b q - 96)) (if p + 9 ≤ q then y' else y' * 27 + ll (b q) - 96) ((b q - 96) :: L) (by omega) (by rw [List.length_cons]; omega) (fun x hx => by
          rcases List.mem_cons.mp hx with z | z
          · rw [z]; omega
          · exact hL x z) (fun h8 => by
          rw [List.length_cons] at h8
          obtain ⟨w1, w2⟩ := hy (by omega)
          refine ⟨?_, ?_⟩
          · rw [w1, ll_mull, ll_add]
            show ll (vr 32 L * 32 + (b q - 96)) = ll (32 * vr 32 L + (b q - 96))
            rw [Nat.mul_comm]
          · rw [if_neg (by omega), w2, ll_mull, ll_add, ll_subl (k := nat_lit 96) (by show 96 ≤ _; omega)]
            show ll (vr 27 L * 27 + b q - 96) = ll (27 * vr 27 L + (b q - 96))
            congr 1
            omega) (by omega) (by omega)
      exact ⟨e, L2, z2, z2', by omega, k2, k3, k4, k5, fun _ _ => by omega, cls2.trans k7, ref2.trans k8⟩
    · rw [xcI_of (p_isL0 hl y1).1, if_pos rfl] at cls
      rw [xcI_of (p_isL0 hl y1).2, if_pos rfl, c2, if_pos x152, ec] at ref
      exact ⟨q, L, y, y', Nat.le_refl _, by omega, hp, hL, hy, fun _ z => absurd z hl, cls, ref⟩
theorem p_wn_l {x : Int64} : ∀ (d k m : Nat), k + d = 20 → (∀ j, j < k → ¬ Sc.2.1 2 (j + 1) = x) → d < m → (∃ k, k < 20 ∧ Sc.2.1 2 (k + 1) = x ∧ (∀ j, j < k → ¬ Sc.2.1 2 (j + 1) = x) ∧ f_X9_wordOrName_2 N m x (nn (k + 1)) Sc = f_X9_wordOrName_2 N m x (nn (k + 1)) Sc ∧ ∀ m', m' = m → f_X9_wordOrName_2 N m' x (nn (20 - d + 1)) Sc = some (rI (nn (k + 1)) Sc)) ∨ ((∀ j, j < 20 → ¬ Sc.2.1 2 (j + 1) = x) ∧ f_X9_wordOrName_2 N m x (nn (20 - d + 1)) Sc = some (rI 40 Sc)) := by
  intro d
  induction d with
  | zero =>
    intro k m hk hn hm
    obtain ⟨m, rfl⟩ := Nat.exists_eq_succ_of_ne_zero (Nat.ne_of_gt (Nat.zero_lt_of_lt hm))
    refine Or.inr ⟨fun j hj => hn j (by omega), ?_⟩
    rw [f_X9_wordOrName_2.eq_2, if_pos (by decide)]
  | succ d ih =>
    intro k m hk hn hm
    obtain ⟨m, rfl⟩ := Nat.exists_eq_succ_of_ne_zero (Nat.ne_of_gt (Nat.zero_lt_of_lt hm))
    have ek : 20 - (d + 1) = k := by omega
    have ek2 : 20 - d = k + 1 := by omega
    by_cases q : Sc.2.1 2 (k + 1) = x
    · refine Or.inl ⟨k, by omega, q, hn, rfl, fun m' hm' => ?_⟩
      subst hm'
      rw [ek]
      show f_X9_wordOrName_2 N (m + 1) x (nn (k + 1)) Sc = _
      rw [f_X9_wordOrName_2.eq_2, if_neg (by simp (disch := omega) only [nn_add, nn_addl, l_add_nn, nn_sub, nn_subl, nn_m1, nn_mull, nn_t, nn_i, l_t, nn_lt, nn_le, nn_eq, nn_ltl, l_lt_nn, nn_lel, l_le_nn, nn_eql, l_eql, nn_nm1, xin_nn, xin_l, m1_lt, m1_le, m1_p, m1_z, dlt_T, dlt_F, dle_T, dle_F, deq_T, deq_F, sI_c, sI_n, sI_J, sI_E, sJ_c, sJ_n, sJ_I, sJ_E, sE_I, sE_J, sE_E, xcI_i, xcJ_i, xcR_i, xcV_i, xcI_e, xcJ_e, xcR_e, xcV_e, if_true, if_false, ite_true, ite_false, true_and, and_true, false_and, and_false, or_true, true_or, or_false, false_or, not_true_eq_false, not_false_eq_true, eq_self, ne_eq, ↓reduceIte, Nat.reduceEqDiff, Nat.reduceLT, Nat.reduceLeDiff, Nat.reduceAdd, Nat.reduceMul, Nat.reduceSub, Int32.reduceLT, Int32.reduceLE, reduceCtorEq]), if_pos ((xin_nn (by omega)).mpr (by omega)), nn_t (by omega), if_pos ((lg_cmp_eq _ _).mpr q)]
    · have step : f_X9_wordOrName_2 N (m + 1) x (nn (20 - (d + 1) + 1)) Sc = f_X9_wordOrName_2 N m x (nn (20 - d + 1)) Sc := by
        rw [ek, ek2, f_X9_wordOrName_2.eq_2, if_neg (by simp (disch := omega) only [nn_add, nn_addl, l_add_nn, nn_sub, nn_subl, nn_m1, nn_mull, nn_t, nn_i, l_t, nn_lt, nn_le, nn_eq, nn_ltl, l_lt_nn, nn_lel, l_le_nn, nn_eql, l_eql, nn_nm1, xin_nn, xin_l, m1_lt, m1_le, m1_p, m1_z, dlt_T, dlt_F, dle_T, dle_F, deq_T, deq_F, sI_c, sI_n, sI_J, sI_E, sJ_c, sJ_n, sJ_I, sJ_E, sE_I, sE_J, sE_E, xcI_i, xcJ_i, xcR_i, xcV_i, xcI_e, xcJ_e, xcR_e, xcV_e, if_true, if_false, ite_true, ite_false, true_and, and_true, false_and, and_false, or_true, true_or, or_false, false_or, not_true_eq_false, not_false_eq_true, eq_self, ne_eq, ↓reduceIte, Nat.reduceEqDiff, Nat.reduceLT, Nat.reduceLeDiff, Nat.reduceAdd, Nat.reduceMul, Nat.reduceSub, Int32.reduceLT, Int32.reduceLE, reduceCtorEq]), if_pos ((xin_nn (by omega)).mpr (by omega)), nn_t (by omega), if_neg (fun z => q ((lg_cmp_eq _ _).mp z)), nn_addl]
      rcases ih (k + 1) m (by omega) (fun j hj => by
        by_cases z : j = k
        · subst z; exact q
        · exact hn j (by omega)) (by omega) with ⟨k2, w1, w2, w3, w4, w5⟩ | ⟨w1, w2⟩
      · exact Or.inl ⟨k2, w1, w2, w3, rfl, fun m' hm' => by subst hm'; exact step.trans (w5 m rfl)⟩
      · exact Or.inr ⟨w1, step.trans w2⟩
theorem p_wn (hN : 1000 < N) (x : Int64) : (∃ k, k < 20 ∧ Sc.2.1 2 (k + 1) = x ∧ (∀ j, j < k → ¬ Sc.2.1 2 (j + 1) = x) ∧ f_X9_wordOrName N x Sc = some (rI (nn (k + 1)) Sc)) ∨ ((∀ j, j < 20 → ¬ Sc.2.1 2 (j + 1) = x) ∧ f_X9_wordOrName N x Sc = some (rI 40 Sc)) := by
  rcases p_wn_l (N := N) (Sc := Sc) (x := x) 20 0 N rfl (fun j hj => absurd hj (Nat.not_lt_zero j)) (by omega) with ⟨k, w1, w2, w3, w4, w5⟩ | ⟨w1, w2⟩
  · exact Or.inl ⟨k, w1, w2, w3, w5 N rfl⟩
  · exact Or.inr ⟨w1, w2⟩
/-- the end of the reference's look for a word -/
def fin85 (p e c : Nat) (y : Int64) (S : xS) : Option xr := if e - p ≤ 8 then some (rI (nn e) (sJ S 516 c y)) else some (rI (-1) (sJ S 516 c y))
theorem p_f85 {y : Int64} {x6 m e : Nat} (hm : 0 < m) (h6 : 20 ≤ x6) (h62 : x6 < 100) (c2 : S.1 503 18 = nn c) (hc : c < 150) (hpe : p ≤ e) (he : e < 1000) : f_X12_token_85 N m (nn p) (nn e) y (nn x6) S = fin85 p e c y S := by
  obtain ⟨m, rfl⟩ := Nat.exists_eq_succ_of_ne_zero (Nat.ne_of_gt hm)
  have x152 : xin (nn c) 152 := (xin_nn (by omega)).mpr (by omega)
  have ec : (nn c).toNatClampNeg = c := nn_t (by omega)
  rw [f_X12_token_85.eq_2, if_pos (by simp (disch := omega) only [nn_add, nn_addl, l_add_nn, nn_sub, nn_subl, nn_m1, nn_mull, nn_t, nn_i, l_t, nn_lt, nn_le, nn_eq, nn_ltl, l_lt_nn, nn_lel, l_le_nn, nn_eql, l_eql, nn_nm1, xin_nn, xin_l, m1_lt, m1_le, m1_p, m1_z, dlt_T, dlt_F, dle_T, dle_F, deq_T, deq_F, sI_c, sI_n, sI_J, sI_E, sJ_c, sJ_n, sJ_I, sJ_E, sE_I, sE_J, sE_E, xcI_i, xcJ_i, xcR_i, xcV_i, xcI_e, xcJ_e, xcR_e, xcV_e, if_true, if_false, ite_true, ite_false, true_and, and_true, false_and, and_false, or_true, true_or, or_false, false_or, not_true_eq_false, not_false_eq_true, eq_self, ne_eq, ↓reduceIte, Nat.reduceEqDiff, Nat.reduceLT, Nat.reduceLeDiff, Nat.reduceAdd, Nat.reduceMul, Nat.reduceSub, Int32.reduceLT, Int32.reduceLE, reduceCtorEq]), c2, if_pos x152, ec, nn_sub hpe]
  unfold fin85 f_X12_token_154
  by_cases q : e - p ≤ 8
  · rw [if_pos (by simp (disch := omega) only [nn_add, nn_addl, l_add_nn, nn_sub, nn_subl, nn_m1, nn_mull, nn_t, nn_i, l_t, nn_lt, nn_le, nn_eq, nn_ltl, l_lt_nn, nn_lel, l_le_nn, nn_eql, l_eql, nn_nm1, xin_nn, xin_l, m1_lt, m1_le, m1_p, m1_z, dlt_T, dlt_F, dle_T, dle_F, deq_T, deq_F, sI_c, sI_n, sI_J, sI_E, sJ_c, sJ_n, sJ_I, sJ_E, sE_I, sE_J, sE_E, xcI_i, xcJ_i, xcR_i, xcV_i, xcI_e, xcJ_e, xcR_e, xcV_e, if_true, if_false, ite_true, ite_false, true_and, and_true, false_and, and_false, or_true, true_or, or_false, false_or, not_true_eq_false, not_false_eq_true, eq_self, ne_eq, ↓reduceIte, Nat.reduceEqDiff, Nat.reduceLT, Nat.reduceLeDiff, Nat.reduceAdd, Nat.reduceMul, Nat.reduceSub, Int32.reduceLT, Int32.reduceLE, reduceCtorEq]), if_pos q]
  · rw [if_neg (by simp (disch := omega) only [nn_add, nn_addl, l_add_nn, nn_sub, nn_subl, nn_m1, nn_mull, nn_t, nn_i, l_t, nn_lt, nn_le, nn_eq, nn_ltl, l_lt_nn, nn_lel, l_le_nn, nn_eql, l_eql, nn_nm1, xin_nn, xin_l, m1_lt, m1_le, m1_p, m1_z, dlt_T, dlt_F, dle_T, dle_F, deq_T, deq_F, sI_c, sI_n, sI_J, sI_E, sJ_c, sJ_n, sJ_I, sJ_E, sE_I, sE_J, sE_E, xcI_i, xcJ_i, xcR_i, xcV_i, xcI_e, xcJ_e, xcR_e, xcV_e, if_true, if_false, ite_true, ite_false, true_and, and_true, false_and, and_false, or_true, true_or, or_false, false_or, not_true_eq_false, not_false_eq_true, eq_self, ne_eq, ↓reduceIte, Nat.reduceEqDiff, Nat.reduceLT, Nat.reduceLeDiff, Nat.reduceAdd, Nat.reduceMul, Nat.reduceSub, Int32.reduceLT, Int32.reduceLE, reduceCtorEq]), if_neg q]
theorem p_t85 {y : Int64} {e : Nat} (c2 : S.1 503 18 = nn c) (hc : c < 150) (hpe : p ≤ e) (he : e < 1000) : ∀ (d k m : Nat), k + d = 20 → (∀ j, j < k → ¬ S.2.1 517 j = y) → d + 1 < m → (∃ k2, k2 < 20 ∧ S.2.1 517 k2 = y ∧ (∀ j, j < k2 → ¬ S.2.1 517 j = y) ∧ f_X12_token_85 N m (nn p) (nn e) y (nn k) S = fin85 p e c (ll k2) (sI S 514 c 3)) ∨ ((∀ j, j < 20 → ¬ S.2.1 517 j = y) ∧ f_X12_token_85 N m (nn p) (nn e) y (nn k) S = fin85 p e c y S) := by
  have x152 : xin (nn c) 152 := (xin_nn (by omega)).mpr (by omega)
  have ec : (nn c).toNatClampNeg = c := nn_t (by omega)
  intro d
  induction d with
  | zero =>
    intro k m hk hn hm
    exact Or.inr ⟨fun j hj => hn j (by omega), p_f85 (by omega) (by omega) (by omega) c2 hc hpe he⟩
  | succ d ih =>
    intro k m hk hn hm
    obtain ⟨m, rfl⟩ := Nat.exists_eq_succ_of_ne_zero (Nat.ne_of_gt (Nat.zero_lt_of_lt hm))
    have st : f_X12_token_85 N (m + 1) (nn p) (nn e) y (nn k) S = if (lg_cmp (S.2.1 517 k) y) = 0 then f_X12_token_124 N (f_X12_token_85 N m) (nn p) (nn e) ((nn k : Int32).toInt64) 20 (sI S 514 c 3) else f_X12_token_124 N (f_X12_token_85 N m) (nn p) (nn e) y (nn k) S := by
      rw [f_X12_token_85.eq_2, if_neg (by simp (disch := omega) only [nn_add, nn_addl, l_add_nn, nn_sub, nn_subl, nn_m1, nn_mull, nn_t, nn_i, l_t, nn_lt, nn_le, nn_eq, nn_ltl, l_lt_nn, nn_lel, l_le_nn, nn_eql, l_eql, nn_nm1, xin_nn, xin_l, m1_lt, m1_le, m1_p, m1_z, dlt_T, dlt_F, dle_T, dle_F, deq_T, deq_F, sI_c, sI_n, sI_J, sI_E, sJ_c, sJ_n, sJ_I, sJ_E, sE_I, sE_J, sE_E, xcI_i, xcJ_i, xcR_i, xcV_i, xcI_e, xcJ_e, xcR_e, xcV_e, if_true, if_false, ite_true, ite_false, true_and, and_true, false_and, and_false, or_true, true_or, or_false, false_or, not_true_eq_false, not_false_eq_true, eq_self, ne_eq, ↓reduceIte, Nat.reduceEqDiff, Nat.reduceLT, Nat.reduceLeDiff, Nat.reduceAdd, Nat.reduceMul, Nat.reduceSub, Int32.reduceLT, Int32.reduceLE, reduceCtorEq]), if_pos ((xin_nn (by omega)).mpr (by omega)), nn_t (by omega), c2, if_pos x152, ec]
    by_cases q : S.2.1 517 k = y
    · refine Or.inl ⟨k, by omega, q, hn, ?_⟩
      rw [st, if_pos ((lg_cmp_eq _ _).mpr q)]
      unfold f_X12_token_124
      rw [nn_ll (by omega)]
      exact p_f85 (x6 := 21) (by omega) (by omega) (by omega) (by simp (disch := omega) only [nn_add, nn_addl, l_add_nn, nn_sub, nn_subl, nn_m1, nn_mull, nn_t, nn_i, l_t, nn_lt, nn_le, nn_eq, nn_ltl, l_lt_nn, nn_lel, l_le_nn, nn_eql, l_eql, nn_nm1, xin_nn, xin_l, m1_lt, m1_le, m1_p, m1_z, dlt_T, dlt_F, dle_T, dle_F, deq_T, deq_F, sI_c, sI_n, sI_J, sI_E, sJ_c, sJ_n, sJ_I, sJ_E, sE_I, sE_J, sE_E, xcI_i, xcJ_i, xcR_i, xcV_i, xcI_e, xcJ_e, xcR_e, xcV_e, if_true, if_false, ite_true, ite_false, true_and, and_true, false_and, and_false, or_true, true_or, or_false, false_or, not_true_eq_false, not_false_eq_true, eq_self, ne_eq, ↓reduceIte, Nat.reduceEqDiff, Nat.reduceLT, Nat.reduceLeDiff, Nat.reduceAdd, Nat.reduceMul, Nat.reduceSub, Int32.reduceLT, Int32.reduceLE, reduceCtorEq, c2]) hc hpe he
    · have st2 : f_X12_token_85 N (m + 1) (nn p) (nn e) y (nn k) S = f_X12_token_85 N m (nn p) (nn e) y (nn (k + 1)) S := by
        rw [st, if_neg (fun z => q ((lg_cmp_eq _ _).mp z))]
        unfold f_X12_token_124
        rw [nn_addl]
      rcases ih (k + 1) m (by omega) (fun j hj => by
        by_cases z : j = k
        · subst z; exact q
        · exact hn j (by omega)) (by omega) with ⟨k2, w1, w2, w3, w4⟩ | ⟨w1, w2⟩
      · exact Or.inl ⟨k2, w1, w2, w3, st2.trans w4⟩
      · exact Or.inr ⟨w1, st2.trans w2⟩
end SC
