/-! 77: one step -/
section ST
variable {N n : Nat} {S Sc Sr Sc' Sr' : xS} {ow : Nat → Nat} {nk sn nv : Nat} {wd : Nat → Nat} {sc sc' : Nat → Nat → Nat → Prop}
theorem r_disp {a c : Nat} (ha : a < 3000) (h0 : S.1 518 a = nn c) (hc : c < 200) : f_X12_step N (nn a) S =
  if c = 100 then
    xcI (f_X12_pay N S) (fun v132 S131 =>
    if v132 = 0 then
      f_X12_step_82 N ((-1)) S131
    else
      f_X12_step_82 N ((nn a) + 1) S131
    )
  else
  if c = 101 then
    if xin ((nn a) + 1) 3000 then
    if xin ((S.1 503 39) - 1) 8 then
    if xin (S.1 518 (((nn a) + 1).toNatClampNeg)) 20 then
    some (.inl (some (.inl ((nn a) + 2))), sI (sI S 503 39 ((S.1 503 39) - 1)) 510 ((S.1 518 (((nn a) + 1).toNatClampNeg)).toNatClampNeg) (S.1 525 (((S.1 503 39) - 1).toNatClampNeg)))
    else none
    else none
    else none
  else
  if c = 102 then
    if xin ((S.1 503 39) - 1) 8 then
    if xin ((S.1 503 47) - (S.1 503 47) / 64 * 64) 64 then
    some (.inl (some (.inl ((nn a) + 2))), sI (sI (sI S 503 39 ((S.1 503 39) - 1)) 532 (((S.1 503 47) - (S.1 503 47) / 64 * 64).toNatClampNeg) (S.1 525 (((S.1 503 39) - 1).toNatClampNeg))) 503 47 ((S.1 503 47) + 1))
    else none
    else none
  else
  if c = 103 then
    xcI (f_X12_insert N (nn a) (sI S 503 39 0)) (fun v143 S142 =>
    if v143 = 0 then
      f_X12_step_194 N ((-2)) S142
    else
      if xin ((nn a) + 2) 3000 then
      f_X12_step_194 N (((nn a) + 3) + (S142.1 518 (((nn a) + 2).toNatClampNeg))) S142
      else none
    )
  else
  if c = 104 then
    if xin ((nn a) + 1) 3000 then
    xcV (f_X12_choose N (S.1 518 (((nn a) + 1).toNatClampNeg)) ((nn a) + 2) S) (fun S148 =>
    f_X12_step_212 N N (nn a) 0 S148
    )
    else none
  else
  if c = 105 then
    xcI (f_X12_setAll N ((nn a) + 1) S) (fun v152 S151 =>
    some (.inl (some (.inl v152)), S151)
    )
  else
  if c = 106 then
    xcV (f_X12_beginEach N (nn a) S) (fun S154 =>
    if xin ((nn a) + 4) 3000 then
    some (.inl (some (.inl (((nn a) + 5) + (S154.1 518 (((nn a) + 4).toNatClampNeg))))), S154)
    else none
    )
  else
  if c = 107 then
    if xin ((nn a) + 1) 3000 then
    xcI (f_X12_nextEach N (S.1 518 (((nn a) + 1).toNatClampNeg)) S) (fun v160 S159 =>
    if v160 = 0 then
      if xin ((nn a) + 3) 3000 then
      some (.inl (some (.inl (S159.1 518 (((nn a) + 3).toNatClampNeg)))), S159)
      else none
    else
      xcI (f_X12_pay N S159) (fun v164 S163 =>
      if v164 = 0 then
        f_X12_step_317 N ((-1)) S163
      else
        f_X12_step_317 N ((nn a) + 4) S163
      )
    )
    else none
  else
  if c = 108 then
    xcV (f_X12_put N (nn a) S) (fun S167 =>
    some (.inl (some (.inl ((nn a) + 4))), S167)
    )
  else
  if c = 109 then
    if xin ((nn a) + 1) 3000 then
    xcI (f_X12_cursorThere N (S.1 518 (((nn a) + 1).toNatClampNeg)) S) (fun v172 S171 =>
    if v172 = 0 then
      f_X12_step_378 N (nn a) S171
    else
      if xin (S171.1 518 (((nn a) + 1).toNatClampNeg)) 12 then
      if xin ((64 * (S171.1 518 (((nn a) + 1).toNatClampNeg))) + (S171.1 529 ((S171.1 518 (((nn a) + 1).toNatClampNeg)).toNatClampNeg))) 768 then
      if xin (S171.1 526 (((64 * (S171.1 518 (((nn a) + 1).toNatClampNeg))) + (S171.1 529 ((S171.1 518 (((nn a) + 1).toNatClampNeg)).toNatClampNeg))).toNatClampNeg)) 64 then
      f_X12_step_378 N (nn a) (sI S171 511 ((S171.1 526 (((64 * (S171.1 518 (((nn a) + 1).toNatClampNeg))) + (S171.1 529 ((S171.1 518 (((nn a) + 1).toNatClampNeg)).toNatClampNeg))).toNatClampNeg)).toNatClampNeg) 0)
      else none
      else none
      else none
    )
    else none
  else
  if c = 110 then
    if xin ((S.1 503 39) - 1) 8 then
    if (S.1 525 (((S.1 503 39) - 1).toNatClampNeg)) = 0 then
      if xin ((nn a) + 1) 3000 then
      f_X12_step_418 N (S.1 518 (((nn a) + 1).toNatClampNeg)) (sI S 503 39 ((S.1 503 39) - 1))
      else none
    else
      f_X12_step_418 N ((nn a) + 2) (sI S 503 39 ((S.1 503 39) - 1))
    else none
  else
  if c = 111 then
    if xin ((nn a) + 1) 3000 then
    some (.inl (some (.inl (S.1 518 (((nn a) + 1).toNatClampNeg)))), S)
    else none
  else
  if xin ((nn a) + 1) 3000 then
  xcI (f_X12_eval N ((nn a) + 2) (S.1 518 (((nn a) + 1).toNatClampNeg)) 0 S) (fun v185 S184 =>
  if xin (S.1 503 39) 8 then
  some (.inl (some (.inl (((nn a) + 2) + (S184.1 518 (((nn a) + 1).toNatClampNeg))))), sI (sI S184 525 ((S.1 503 39).toNatClampNeg) v185) 503 39 ((S184.1 503 39) + 1))
  else none
  )
  else none := by
  have ep : (nn a).toNatClampNeg = a := nn_t (by omega)
  have x3 : xin (nn a) 3000 := (xin_nn (by omega)).mpr ha
  have ei : (nn c).toInt = (c : Int) := nn_i (by omega)
  unfold f_X12_step
  rw [if_pos x3]
  simp only [ep, h0, ei, List.mem_cons, List.not_mem_nil, or_false, ci_eq]
theorem g_disp {k14 : Int32 → Int32 → xS → Option xr} {x2 x3 : Int32} {i c : Nat} (hi : i < 151) (h0 : S.1 (102 + 2 * i) 0 = nn c) (hc : c < 200) : f_X2_goThrough_74 N k14 x2 x3 (102 + 2 * i) S =
  if c = 2 then
    xcI (f_X2_insert N (102 + 2 * i) S) (fun v58 S57 =>
    if v58 = 0 then
      some (.inl (some (.inl 2)), S57)
    else
      f_X2_goThrough_212 N k14 x2 x3 S57
    )
  else
  if c = 10 ∨ c = 12 then
    xcI (f_X2_value N (S.1 (102 + 2 * i) 6) S) (fun v62 S61 =>
    if v62 = 0 then
      f_X2_goThrough_193 N k14 x3 (S61.1 (102 + 2 * i) 9) S61
    else
      f_X2_goThrough_193 N k14 x3 x2 S61
    )
  else
  if c = 48 then
    xcI (f_X0_moves N (S.1 (102 + 2 * i) 3) S) (fun v66 S65 =>
    if v66 = 0 then
      f_X2_goThrough_212 N k14 (S65.1 (102 + 2 * i) 9) x3 S65
    else
      xcI (f_X2_spend N S65) (fun v69 S68 =>
      if v69 = 0 then
        some (.inl (some (.inl 1)), S68)
      else
        f_X2_goThrough_212 N k14 x2 x3 S68
      )
    )
  else
  if c = 49 then
    f_X2_goThrough_212 N k14 (S.1 (102 + 2 * i) 9) x3 S
  else
  xcV (f_X2_act N (102 + 2 * i) S) (fun S72 =>
  f_X2_goThrough_212 N k14 x2 x3 S72
  ) := by
  have xs : xStep (102 + 2 * i) := ⟨by omega, by omega, by omega⟩
  have ei : (nn c).toInt = (c : Int) := nn_i (by omega)
  unfold f_X2_goThrough_74
  rw [if_pos xs]
  simp only [h0, ei, List.mem_cons, List.not_mem_nil, or_false, ci_eq]
theorem a_disp {i c : Nat} (hi : i < 151) (h0 : S.1 (102 + 2 * i) 0 = nn c) (hc : c < 200) : f_X2_act N (102 + 2 * i) S =
  if c = 3 then
    xcJ (f_X2_found N (S.1 (102 + 2 * i) 1) (S.1 (102 + 2 * i) 5) S) (fun v64 S63 =>
    xcV (f_X10_free N (S.1 (102 + 2 * i) 1) v64 S63) (fun S65 =>
    f_X2_act_213 N S65
    )
    )
  else
  if c = 5 then
    xcV (f_X2_set N (102 + 2 * i) S) (fun S68 =>
    f_X2_act_213 N S68
    )
  else
  if c = 6 then
    xcI (f_X2_value N (S.1 (102 + 2 * i) 6) S) (fun v72 S71 =>
    if xin (S.1 (102 + 2 * i) 4) 20 then
    f_X2_act_213 N (sI S71 410 ((S.1 (102 + 2 * i) 4).toNatClampNeg) v72)
    else none
    )
  else
  if c = 7 then
    xcI (f_X2_value N (S.1 (102 + 2 * i) 6) S) (fun v76 S75 =>
    if xin ((S.1 409 8) - (S.1 409 8) / 64 * 64) 64 then
    f_X2_act_213 N (sI (sI S75 411 (((S.1 409 8) - (S.1 409 8) / 64 * 64).toNatClampNeg) v76) 409 8 ((S75.1 409 8) + 1))
    else none
    )
  else
  if c = 8 then
    xcJ (f_X2_found N (S.1 (102 + 2 * i) 1) (S.1 (102 + 2 * i) 5) S) (fun v80 S79 =>
    xcV (f_X0_begin N (S.1 (102 + 2 * i) 3) v80 (S79.1 (102 + 2 * i) 2) S79) (fun S81 =>
    f_X2_act_213 N S81
    )
    )
  else
  if c = 13 then
    xcV (f_X2_remove N (102 + 2 * i) S) (fun S84 =>
    f_X2_act_213 N S84
    )
  else
  if c = 50 then
    xcI (f_X2_value N (S.1 (102 + 2 * i) 6) S) (fun v88 S87 =>
    xcV (f_X2_change N (102 + 2 * i) v88 S87) (fun S89 =>
    f_X2_act_213 N S89
    )
    )
  else
  f_X2_act_213 N S := by
  have xs : xStep (102 + 2 * i) := ⟨by omega, by omega, by omega⟩
  have ei : (nn c).toInt = (c : Int) := nn_i (by omega)
  unfold f_X2_act
  rw [if_pos xs]
  simp only [h0, ei, List.mem_cons, List.not_mem_nil, or_false, ci_eq]
def rwC (q : Nat) : Prop := q = 29 ∨ q = 96 ∨ (32 ≤ q ∧ q ≤ 95) ∨ q = 410 ∨ (480 ≤ q ∧ q ≤ 502)
def rwR (q : Nat) : Prop := (510 ≤ q ∧ q ≤ 513) ∨ (526 ≤ q ∧ q ≤ 529)
theorem CST_x {b d κ : Nat} (hb : b < 10) (h1 : ∀ q, rwC q → Sc'.1 q = Sc.1 q) (h2 : ∀ q, rwR q → Sr'.1 q = Sr.1 q) (h : CST Sc Sr ow sn b d κ) : CST Sc' Sr' ow sn b d κ := by
  obtain ⟨k, sz, a1, a2, a3, a4, a5, a6, a7⟩ := h
  refine ⟨k, sz, a1, by rw [h1 502 (by unfold rwC; omega)]; exact a2, by rw [h2 529 (by unfold rwR; omega)]; exact a3, a4, by rw [h1 501 (by unfold rwC; omega)]; exact a5, by rw [h2 528 (by unfold rwR; omega)]; exact a6, fun j hj => ?_⟩
  rw [h1 (480 + b) (by unfold rwC; omega), h1 (491 + b) (by unfold rwC; omega), h1 96 (by unfold rwC; omega), h2 526 (by unfold rwR; omega), h2 527 (by unfold rwR; omega)]
  exact a7 j hj
theorem DBR_x (h : DBR Sc Sr ow nk wd sn) (h1 : ∀ q, rwC q → Sc'.1 q = Sc.1 q) (h3 : Sc'.2.1 30 = Sc.2.1 30) (h2 : ∀ q, rwR q → Sr'.1 q = Sr.1 q) (h4 : Sr'.1 503 14 = Sr.1 503 14) : DBR Sc' Sr' ow nk wd sn := by
  obtain ⟨d1, d2, d3, d4, d5, d6, d7, d8⟩ := h
  refine ⟨fun v hv => by rw [h2 511 (by unfold rwR; omega)]; exact d1 v hv, by rw [h3]; exact d2, fun v hv h0 => ?_, fun v hv h0 => by rw [h1 96 (by unfold rwC; omega)]; exact d4 v hv h0, by rw [h1 29 (by unfold rwC; omega)]; exact d5, by rw [h4]; exact d6, d7, d8⟩
  rw [h1 (32 + v) (by unfold rwC; omega), h1 96 (by unfold rwC; omega), h2 512 (by unfold rwR; omega), h2 513 (by unfold rwR; omega)]
  exact d3 v hv h0
/-- what doesn't touch words, variables, cursors -/
theorem RT_x (h : RT Sc Sr ow nk wd sn nv sc) (h1 : ∀ q, rwC q → Sc'.1 q = Sc.1 q) (h3 : Sc'.2.1 30 = Sc.2.1 30) (h2 : ∀ q, rwR q → Sr'.1 q = Sr.1 q) (h4 : Sr'.1 503 14 = Sr.1 503 14) : RT Sc' Sr' ow nk wd sn nv sc := by
  obtain ⟨d, v, c⟩ := h
  refine ⟨DBR_x d h1 h3 h2 h4, fun u hu => by rw [h1 410 (by unfold rwC; omega), h2 510 (by unfold rwR; omega)]; exact v u hu, fun b e κ z => ?_⟩
  obtain ⟨z1, z2, z3⟩ := c b e κ z
  exact ⟨z1, z2, CST_x z1 h1 h2 z3⟩
theorem RT_m (h : RT Sc Sr ow nk wd sn nv sc) (hm : ∀ b d κ, sc' b d κ → sc b d κ) : RT Sc Sr ow nk wd sn nv sc' := ⟨h.1, h.2.1, fun b d κ z => h.2.2 b d κ (hm b d κ z)⟩
/-- fuel and output -/
def RM (Sc Sr : xS) (fu sp ou : Nat) : Prop := Sc.1 409 9 = nn fu ∧ Sr.1 503 35 = nn fu ∧ Sc.1 409 10 = nn sp ∧ Sr.1 503 36 = nn sp ∧ sp ≤ fu ∧ fu ≤ 20000 ∧ Sc.1 409 8 = nn ou ∧ Sr.1 503 47 = nn ou ∧ ou < 2000000000 ∧ (∀ j, j < 64 → Sc.1 411 j = Sr.1 532 j) ∧ Sr.1 503 39 = nn 0
theorem p_spend {fu sp ou : Nat} (h : RM Sc Sr fu sp ou) : (sp = fu ∧ f_X2_spend N Sc = some (rI 0 Sc) ∧ f_X12_pay N Sr = some (rI 0 Sr)) ∨ (sp < fu ∧ f_X2_spend N Sc = some (rI 1 (sI Sc 409 10 (nn (sp + 1)))) ∧ f_X12_pay N Sr = some (rI 1 (sI Sr 503 36 (nn (sp + 1)))) ∧ RM (sI Sc 409 10 (nn (sp + 1))) (sI Sr 503 36 (nn (sp + 1))) fu (sp + 1) ou) := by
  obtain ⟨h1, h2, h3, h4, h5, h6, h7, h8, h9, h10, h11⟩ := h
  unfold f_X2_spend f_X12_pay
  rw [h1, h2, h3, h4]
  by_cases q : sp = fu
  · refine Or.inl ⟨q, ?_, ?_⟩
    · rw [if_pos (by rw [q])]
    · rw [if_pos (by rw [q])]
  · have hn : ¬ nn sp = nn fu := fun z => q ((nn_eq (by omega) (by omega)).mp z)
    refine Or.inr ⟨by omega, ?_, ?_, ?_⟩
    · rw [if_neg hn, nn_addl]
    · rw [if_neg hn, nn_addl]
    · exact ⟨by simp (disch := omega) only [nn_add, nn_addl, l_add_nn, nn_sub, nn_subl, nn_m1, nn_mull, nn_t, nn_i, l_t, nn_lt, nn_le, nn_eq, nn_ltl, l_lt_nn, nn_lel, l_le_nn, nn_eql, l_eql, nn_nm1, xin_nn, xin_l, m1_lt, m1_le, m1_p, m1_z, dlt_T, dlt_F, dle_T, dle_F, deq_T, deq_F, sI_c, sI_n, sI_J, sI_E, sJ_c, sJ_n, sJ_I, sJ_E, sE_I, sE_J, sE_E, xcI_i, xcJ_i, xcR_i, xcV_i, xcI_e, xcJ_e, xcR_e, xcV_e, if_true, if_false, ite_true, ite_false, true_and, and_true, false_and, and_false, or_true, true_or, or_false, false_or, not_true_eq_false, not_false_eq_true, eq_self, ne_eq, ↓reduceIte, Nat.reduceEqDiff, Nat.reduceLT, Nat.reduceLeDiff, Nat.reduceAdd, Nat.reduceMul, Nat.reduceSub, Int32.reduceLT, Int32.reduceLE, reduceCtorEq, h1], by simp (disch := omega) only [nn_add, nn_addl, l_add_nn, nn_sub, nn_subl, nn_m1, nn_mull, nn_t, nn_i, l_t, nn_lt, nn_le, nn_eq, nn_ltl, l_lt_nn, nn_lel, l_le_nn, nn_eql, l_eql, nn_nm1, xin_nn, xin_l, m1_lt, m1_le, m1_p, m1_z, dlt_T, dlt_F, dle_T, dle_F, deq_T, deq_F, sI_c, sI_n, sI_J, sI_E, sJ_c, sJ_n, sJ_I, sJ_E, sE_I, sE_J, sE_E, xcI_i, xcJ_i, xcR_i, xcV_i, xcI_e, xcJ_e, xcR_e, xcV_e, if_true, if_false, ite_true, ite_false, true_and, and_true, false_and, and_false, or_true, true_or, or_false, false_or, not_true_eq_false, not_false_eq_true, eq_self, ne_eq, ↓reduceIte, Nat.reduceEqDiff, Nat.reduceLT, Nat.reduceLeDiff, Nat.reduceAdd, Nat.reduceMul, Nat.reduceSub, Int32.reduceLT, Int32.reduceLE, reduceCtorEq, h2], by simp (disch := omega) only [nn_add, nn_addl, l_add_nn, nn_sub, nn_subl, nn_m1, nn_mull, nn_t, nn_i, l_t, nn_lt, nn_le, nn_eq, nn_ltl, l_lt_nn, nn_lel, l_le_nn, nn_eql, l_eql, nn_nm1, xin_nn, xin_l, m1_lt, m1_le, m1_p, m1_z, dlt_T, dlt_F, dle_T, dle_F, deq_T, deq_F, sI_c, sI_n, sI_J, sI_E, sJ_c, sJ_n, sJ_I, sJ_E, sE_I, sE_J, sE_E, xcI_i, xcJ_i, xcR_i, xcV_i, xcI_e, xcJ_e, xcR_e, xcV_e, if_true, if_false, ite_true, ite_false, true_and, and_true, false_and, and_false, or_true, true_or, or_false, false_or, not_true_eq_false, not_false_eq_true, eq_self, ne_eq, ↓reduceIte, Nat.reduceEqDiff, Nat.reduceLT, Nat.reduceLeDiff, Nat.reduceAdd, Nat.reduceMul, Nat.reduceSub, Int32.reduceLT, Int32.reduceLE, reduceCtorEq], by simp (disch := omega) only [nn_add, nn_addl, l_add_nn, nn_sub, nn_subl, nn_m1, nn_mull, nn_t, nn_i, l_t, nn_lt, nn_le, nn_eq, nn_ltl, l_lt_nn, nn_lel, l_le_nn, nn_eql, l_eql, nn_nm1, xin_nn, xin_l, m1_lt, m1_le, m1_p, m1_z, dlt_T, dlt_F, dle_T, dle_F, deq_T, deq_F, sI_c, sI_n, sI_J, sI_E, sJ_c, sJ_n, sJ_I, sJ_E, sE_I, sE_J, sE_E, xcI_i, xcJ_i, xcR_i, xcV_i, xcI_e, xcJ_e, xcR_e, xcV_e, if_true, if_false, ite_true, ite_false, true_and, and_true, false_and, and_false, or_true, true_or, or_false, false_or, not_true_eq_false, not_false_eq_true, eq_self, ne_eq, ↓reduceIte, Nat.reduceEqDiff, Nat.reduceLT, Nat.reduceLeDiff, Nat.reduceAdd, Nat.reduceMul, Nat.reduceSub, Int32.reduceLT, Int32.reduceLE, reduceCtorEq], by omega, h6, by simp (disch := omega) only [nn_add, nn_addl, l_add_nn, nn_sub, nn_subl, nn_m1, nn_mull, nn_t, nn_i, l_t, nn_lt, nn_le, nn_eq, nn_ltl, l_lt_nn, nn_lel, l_le_nn, nn_eql, l_eql, nn_nm1, xin_nn, xin_l, m1_lt, m1_le, m1_p, m1_z, dlt_T, dlt_F, dle_T, dle_F, deq_T, deq_F, sI_c, sI_n, sI_J, sI_E, sJ_c, sJ_n, sJ_I, sJ_E, sE_I, sE_J, sE_E, xcI_i, xcJ_i, xcR_i, xcV_i, xcI_e, xcJ_e, xcR_e, xcV_e, if_true, if_false, ite_true, ite_false, true_and, and_true, false_and, and_false, or_true, true_or, or_false, false_or, not_true_eq_false, not_false_eq_true, eq_self, ne_eq, ↓reduceIte, Nat.reduceEqDiff, Nat.reduceLT, Nat.reduceLeDiff, Nat.reduceAdd, Nat.reduceMul, Nat.reduceSub, Int32.reduceLT, Int32.reduceLE, reduceCtorEq, h7], by simp (disch := omega) only [nn_add, nn_addl, l_add_nn, nn_sub, nn_subl, nn_m1, nn_mull, nn_t, nn_i, l_t, nn_lt, nn_le, nn_eq, nn_ltl, l_lt_nn, nn_lel, l_le_nn, nn_eql, l_eql, nn_nm1, xin_nn, xin_l, m1_lt, m1_le, m1_p, m1_z, dlt_T, dlt_F, dle_T, dle_F, deq_T, deq_F, sI_c, sI_n, sI_J, sI_E, sJ_c, sJ_n, sJ_I, sJ_E, sE_I, sE_J, sE_E, xcI_i, xcJ_i, xcR_i, xcV_i, xcI_e, xcJ_e, xcR_e, xcV_e, if_true, if_false, ite_true, ite_false, true_and, and_true, false_and, and_false, or_true, true_or, or_false, false_or, not_true_eq_false, not_false_eq_true, eq_self, ne_eq, ↓reduceIte, Nat.reduceEqDiff, Nat.reduceLT, Nat.reduceLeDiff, Nat.reduceAdd, Nat.reduceMul, Nat.reduceSub, Int32.reduceLT, Int32.reduceLE, reduceCtorEq, h8], h9, fun j hj => by simp (disch := omega) only [nn_add, nn_addl, l_add_nn, nn_sub, nn_subl, nn_m1, nn_mull, nn_t, nn_i, l_t, nn_lt, nn_le, nn_eq, nn_ltl, l_lt_nn, nn_lel, l_le_nn, nn_eql, l_eql, nn_nm1, xin_nn, xin_l, m1_lt, m1_le, m1_p, m1_z, dlt_T, dlt_F, dle_T, dle_F, deq_T, deq_F, sI_c, sI_n, sI_J, sI_E, sJ_c, sJ_n, sJ_I, sJ_E, sE_I, sE_J, sE_E, xcI_i, xcJ_i, xcR_i, xcV_i, xcI_e, xcJ_e, xcR_e, xcV_e, if_true, if_false, ite_true, ite_false, true_and, and_true, false_and, and_false, or_true, true_or, or_false, false_or, not_true_eq_false, not_false_eq_true, eq_self, ne_eq, ↓reduceIte, Nat.reduceEqDiff, Nat.reduceLT, Nat.reduceLeDiff, Nat.reduceAdd, Nat.reduceMul, Nat.reduceSub, Int32.reduceLT, Int32.reduceLE, reduceCtorEq]; exact h10 j hj, by simp (disch := omega) only [nn_add, nn_addl, l_add_nn, nn_sub, nn_subl, nn_m1, nn_mull, nn_t, nn_i, l_t, nn_lt, nn_le, nn_eq, nn_ltl, l_lt_nn, nn_lel, l_le_nn, nn_eql, l_eql, nn_nm1, xin_nn, xin_l, m1_lt, m1_le, m1_p, m1_z, dlt_T, dlt_F, dle_T, dle_F, deq_T, deq_F, sI_c, sI_n, sI_J, sI_E, sJ_c, sJ_n, sJ_I, sJ_E, sE_I, sE_J, sE_E, xcI_i, xcJ_i, xcR_i, xcV_i, xcI_e, xcJ_e, xcR_e, xcV_e, if_true, if_false, ite_true, ite_false, true_and, and_true, false_and, and_false, or_true, true_or, or_false, false_or, not_true_eq_false, not_false_eq_true, eq_self, ne_eq, ↓reduceIte, Nat.reduceEqDiff, Nat.reduceLT, Nat.reduceLeDiff, Nat.reduceAdd, Nat.reduceMul, Nat.reduceSub, Int32.reduceLT, Int32.reduceLE, reduceCtorEq, h11]⟩
end ST
