/-! 35: open blocks -/
def lvl (ty : Nat → Nat) : Nat → Nat
  | 0 => 0
  | i + 1 => lvl ty i + if ty i = 4 then 1 else 0
theorem lvl_le (ty : Nat → Nat) : ∀ n, lvl ty n ≤ n := by
  intro n
  induction n with
  | zero => exact Nat.le_refl _
  | succ n ih =>
    unfold lvl
    split <;> omega
theorem lvl_mono (ty : Nat → Nat) (i : Nat) : ∀ n, i ≤ n → lvl ty i ≤ lvl ty n := by
  intro n
  induction n with
  | zero => intro h; rw [Nat.le_zero.mp h]; exact Nat.le_refl _
  | succ n ih =>
    intro h
    rcases Nat.lt_or_ge i (n + 1) with h1 | h1
    · have := ih (by omega)
      show lvl ty i ≤ lvl ty n + _
      omega
    · rw [show i = n + 1 by omega]; exact Nat.le_refl _
theorem lvl_lt {ty : Nat → Nat} {i n : Nat} (h : i < n) (h4 : ty i = 4) : lvl ty i < lvl ty n := by
  have := lvl_mono ty (i + 1) n (by omega)
  have e : lvl ty (i + 1) = lvl ty i + 1 := by show lvl ty i + (if ty i = 4 then 1 else 0) = _; rw [if_pos h4]
  omega
theorem lvl_c {ty ty2 : Nat → Nat} : ∀ n, (∀ i, i < n → ty2 i = ty i) → lvl ty2 n = lvl ty n := by
  intro n
  induction n with
  | zero => intro _; rfl
  | succ n ih =>
    intro h
    show lvl ty2 n + (if ty2 n = 4 then 1 else 0) = lvl ty n + (if ty n = 4 then 1 else 0)
    rw [ih (fun i hi => h i (by omega)), h n (by omega)]
def lst (ty kd : Nat → Nat) (k : Nat) : Nat → Option Nat
  | 0 => none
  | i + 1 => if ty i = 4 ∧ kd i = k then some i else lst ty kd k i
theorem lst_s {ty kd : Nat → Nat} {k : Nat} : ∀ {n i : Nat}, lst ty kd k n = some i → i < n ∧ ty i = 4 ∧ kd i = k := by
  intro n
  induction n with
  | zero => intro i h; cases h
  | succ n ih =>
    intro i h
    unfold lst at h
    split at h
    · rename_i hc
      cases h
      exact ⟨Nat.lt_succ_self _, hc.1, hc.2⟩
    · have := ih h
      exact ⟨by omega, this.2⟩
def lvI (ty : Nat → Nat) (o : Option Nat) : Int32 := match o with
  | none => -1
  | some i => nn (lvl ty i)
def tya (a : Nat) : Nat := if a = 1 then 10 else if a = 2 then 49 else if a = 3 then 12 else 48
theorem tya_lt (a : Nat) : tya a < 100 := by
  unfold tya
  repeat' split
  all_goals decide
theorem tya_4 {a : Nat} (h : 1 ≤ a) (h4 : a ≤ 4) : tya a = 48 ↔ a = 4 := by
  have : ∀ j, j < 5 → 1 ≤ j → (tya j = 48 ↔ j = 4) := by decide
  exact this a (by omega) h
/-- the open blocks: what kind of block, the step that opened it, the kind gone over; A: where a step's code begins -/
def r_bk (Sc Sr : xS) (nb ns : Nat) (ty op kd A : Nat → Nat) (nk : Nat) : Prop := nb ≤ 10 ∧ ns ≤ 150 ∧ Sc.1 405 4 = nn nb ∧ Sr.1 503 30 = nn nb ∧ ∀ i, i < nb → 1 ≤ ty i ∧ ty i ≤ 4 ∧ op i < ns ∧ Sc.1 406 i = nn (op i) ∧ Sc.1 (102 + 2 * op i) 0 = nn (tya (ty i)) ∧ Sr.1 520 i = nn (ty i) ∧ (ty i = 4 → Sc.1 (102 + 2 * op i) 1 = nn (kd i + 1) ∧ Sc.1 (102 + 2 * op i) 3 = nn i ∧ Sr.1 523 i = nn (kd i) ∧ kd i < nk) ∧ Sr.1 521 i = nn (A (op i + 1) - 1) ∧ (3 ≤ ty i → Sr.1 522 i = nn (A (op i)))
section BK
variable {Sc Sr : xS} {nb ns nk N : Nat} {ty op kd A : Nat → Nat}
theorem p_cur_l (h : r_bk Sc Sr nb ns ty op kd A nk) (hk7 : nk ≤ 7) {k : Nat} (hk : k < 7) : ∀ n m, n ≤ nb → n < m → f_X7_cursor_22 N m (nn (k + 1)) (nn n - 1) Sc = match lst ty kd k n with
    | some i => some (rI (nn i) Sc)
    | none => some (rA (sE Sc)) := by
  obtain ⟨h1, h2, h3, h4, h5⟩ := h
  intro n
  induction n with
  | zero =>
    intro m _ hm
    obtain ⟨m, rfl⟩ := Nat.exists_eq_succ_of_ne_zero (Nat.ne_of_gt (Nat.zero_lt_of_lt hm))
    rw [f_X7_cursor_22.eq_2, if_pos (by decide)]
    rfl
  | succ n ih =>
    intro m hn hm
    obtain ⟨m, rfl⟩ := Nat.exists_eq_succ_of_ne_zero (Nat.ne_of_gt (Nat.zero_lt_of_lt hm))
    obtain ⟨a1, a2, a3, a4, a5, a6, a7, _⟩ := h5 n (by omega)
    have b := tya_lt (ty n)
    have b2 := tya_4 a1 a2
    have ih' := ih m (by omega) (by omega)
    rw [f_X7_cursor_22.eq_2, nn_s1]
    by_cases ht : ty n = 4
    · obtain ⟨c1, c2, c3, c4⟩ := a7 ht
      by_cases hq : kd n = k
      · simp (disch := omega) only [nn_add, nn_addl, l_add_nn, nn_sub, nn_subl, nn_m1, nn_mull, nn_t, nn_i, l_t, nn_lt, nn_le, nn_eq, nn_ltl, l_lt_nn, nn_lel, l_le_nn, nn_eql, l_eql, nn_nm1, xin_nn, xin_l, m1_lt, m1_le, m1_p, m1_z, dlt_T, dlt_F, dle_T, dle_F, deq_T, deq_F, sI_c, sI_n, sI_J, sI_E, sJ_c, sJ_n, sJ_I, sJ_E, sE_I, sE_J, sE_E, xcI_i, xcJ_i, xcR_i, xcV_i, xcI_e, xcJ_e, xcR_e, xcV_e, if_true, if_false, ite_true, ite_false, true_and, and_true, false_and, and_false, or_true, true_or, or_false, false_or, not_true_eq_false, not_false_eq_true, eq_self, ne_eq, ↓reduceIte, Nat.reduceEqDiff, Nat.reduceLT, Nat.reduceLeDiff, Nat.reduceAdd, Nat.reduceMul, Nat.reduceSub, Int32.reduceLT, Int32.reduceLE, reduceCtorEq, a4, a5, ht, c1, c2, hq, lst, tya]
      · simp (disch := omega) only [nn_add, nn_addl, l_add_nn, nn_sub, nn_subl, nn_m1, nn_mull, nn_t, nn_i, l_t, nn_lt, nn_le, nn_eq, nn_ltl, l_lt_nn, nn_lel, l_le_nn, nn_eql, l_eql, nn_nm1, xin_nn, xin_l, m1_lt, m1_le, m1_p, m1_z, dlt_T, dlt_F, dle_T, dle_F, deq_T, deq_F, sI_c, sI_n, sI_J, sI_E, sJ_c, sJ_n, sJ_I, sJ_E, sE_I, sE_J, sE_E, xcI_i, xcJ_i, xcR_i, xcV_i, xcI_e, xcJ_e, xcR_e, xcV_e, if_true, if_false, ite_true, ite_false, true_and, and_true, false_and, and_false, or_true, true_or, or_false, false_or, not_true_eq_false, not_false_eq_true, eq_self, ne_eq, ↓reduceIte, Nat.reduceEqDiff, Nat.reduceLT, Nat.reduceLeDiff, Nat.reduceAdd, Nat.reduceMul, Nat.reduceSub, Int32.reduceLT, Int32.reduceLE, reduceCtorEq, a4, a5, ht, c1, c2, hq, lst, tya, f_X7_cursor_63]
        rw [nn_pm]
        exact ih'
    · have b3 : ¬ tya (ty n) = 48 := fun z => ht (b2.mp z)
      simp (disch := omega) only [nn_add, nn_addl, l_add_nn, nn_sub, nn_subl, nn_m1, nn_mull, nn_t, nn_i, l_t, nn_lt, nn_le, nn_eq, nn_ltl, l_lt_nn, nn_lel, l_le_nn, nn_eql, l_eql, nn_nm1, xin_nn, xin_l, m1_lt, m1_le, m1_p, m1_z, dlt_T, dlt_F, dle_T, dle_F, deq_T, deq_F, sI_c, sI_n, sI_J, sI_E, sJ_c, sJ_n, sJ_I, sJ_E, sE_I, sE_J, sE_E, xcI_i, xcJ_i, xcR_i, xcV_i, xcI_e, xcJ_e, xcR_e, xcV_e, if_true, if_false, ite_true, ite_false, true_and, and_true, false_and, and_false, or_true, true_or, or_false, false_or, not_true_eq_false, not_false_eq_true, eq_self, ne_eq, ↓reduceIte, Nat.reduceEqDiff, Nat.reduceLT, Nat.reduceLeDiff, Nat.reduceAdd, Nat.reduceMul, Nat.reduceSub, Int32.reduceLT, Int32.reduceLE, reduceCtorEq, a4, a5, ht, b3, lst, f_X7_cursor_63]
      rw [nn_pm]
      exact ih'
theorem p_cur0_l (h : r_bk Sc Sr nb ns ty op kd A nk) (hk7 : nk ≤ 7) : ∀ n m, n ≤ nb → n < m → f_X7_cursor_22 N m 0 (nn n - 1) Sc = some (rA (sE Sc)) := by
  obtain ⟨h1, h2, h3, h4, h5⟩ := h
  intro n
  induction n with
  | zero =>
    intro m _ hm
    obtain ⟨m, rfl⟩ := Nat.exists_eq_succ_of_ne_zero (Nat.ne_of_gt (Nat.zero_lt_of_lt hm))
    rw [f_X7_cursor_22.eq_2, if_pos (by decide)]
  | succ n ih =>
    intro m hn hm
    obtain ⟨m, rfl⟩ := Nat.exists_eq_succ_of_ne_zero (Nat.ne_of_gt (Nat.zero_lt_of_lt hm))
    obtain ⟨a1, a2, a3, a4, a5, a6, a7, _⟩ := h5 n (by omega)
    have b := tya_lt (ty n)
    have b2 := tya_4 a1 a2
    have ih' := ih m (by omega) (by omega)
    rw [f_X7_cursor_22.eq_2, nn_s1]
    by_cases ht : ty n = 4
    · obtain ⟨c1, c2, c3, c4⟩ := a7 ht
      simp (disch := omega) only [nn_add, nn_addl, l_add_nn, nn_sub, nn_subl, nn_m1, nn_mull, nn_t, nn_i, l_t, nn_lt, nn_le, nn_eq, nn_ltl, l_lt_nn, nn_lel, l_le_nn, nn_eql, l_eql, nn_nm1, xin_nn, xin_l, m1_lt, m1_le, m1_p, m1_z, dlt_T, dlt_F, dle_T, dle_F, deq_T, deq_F, sI_c, sI_n, sI_J, sI_E, sJ_c, sJ_n, sJ_I, sJ_E, sE_I, sE_J, sE_E, xcI_i, xcJ_i, xcR_i, xcV_i, xcI_e, xcJ_e, xcR_e, xcV_e, if_true, if_false, ite_true, ite_false, true_and, and_true, false_and, and_false, or_true, true_or, or_false, false_or, not_true_eq_false, not_false_eq_true, eq_self, ne_eq, ↓reduceIte, Nat.reduceEqDiff, Nat.reduceLT, Nat.reduceLeDiff, Nat.reduceAdd, Nat.reduceMul, Nat.reduceSub, Int32.reduceLT, Int32.reduceLE, reduceCtorEq, a4, a5, ht, c1, c2, tya, f_X7_cursor_63]
      rw [nn_pm]
      exact ih'
    · have b3 : ¬ tya (ty n) = 48 := fun z => ht (b2.mp z)
      simp (disch := omega) only [nn_add, nn_addl, l_add_nn, nn_sub, nn_subl, nn_m1, nn_mull, nn_t, nn_i, l_t, nn_lt, nn_le, nn_eq, nn_ltl, l_lt_nn, nn_lel, l_le_nn, nn_eql, l_eql, nn_nm1, xin_nn, xin_l, m1_lt, m1_le, m1_p, m1_z, dlt_T, dlt_F, dle_T, dle_F, deq_T, deq_F, sI_c, sI_n, sI_J, sI_E, sJ_c, sJ_n, sJ_I, sJ_E, sE_I, sE_J, sE_E, xcI_i, xcJ_i, xcR_i, xcV_i, xcI_e, xcJ_e, xcR_e, xcV_e, if_true, if_false, ite_true, ite_false, true_and, and_true, false_and, and_false, or_true, true_or, or_false, false_or, not_true_eq_false, not_false_eq_true, eq_self, ne_eq, ↓reduceIte, Nat.reduceEqDiff, Nat.reduceLT, Nat.reduceLeDiff, Nat.reduceAdd, Nat.reduceMul, Nat.reduceSub, Int32.reduceLT, Int32.reduceLE, reduceCtorEq, a4, a5, ht, b3, f_X7_cursor_63]
      rw [nn_pm]
      exact ih'
theorem p_lev_l (h : r_bk Sc Sr nb ns ty op kd A nk) (hk7 : nk ≤ 7) {k : Nat} (hk : k < 7) : ∀ d i m, i + d = nb → d < m → f_X12_levelOf_7 N m (nn k) (lvI ty (lst ty kd k i)) (nn (lvl ty i)) (nn i) Sr = some (rI (lvI ty (lst ty kd k nb)) Sr) := by
  obtain ⟨h1, h2, h3, h4, h5⟩ := h
  intro d
  induction d with
  | zero =>
    intro i m hi hm
    obtain ⟨m, rfl⟩ := Nat.exists_eq_succ_of_ne_zero (Nat.ne_of_gt (Nat.zero_lt_of_lt hm))
    have : i = nb := by omega
    subst this
    rw [f_X12_levelOf_7.eq_2, h4]
    simp (disch := omega) only [nn_add, nn_addl, l_add_nn, nn_sub, nn_subl, nn_m1, nn_mull, nn_t, nn_i, l_t, nn_lt, nn_le, nn_eq, nn_ltl, l_lt_nn, nn_lel, l_le_nn, nn_eql, l_eql, nn_nm1, xin_nn, xin_l, m1_lt, m1_le, m1_p, m1_z, dlt_T, dlt_F, dle_T, dle_F, deq_T, deq_F, sI_c, sI_n, sI_J, sI_E, sJ_c, sJ_n, sJ_I, sJ_E, sE_I, sE_J, sE_E, xcI_i, xcJ_i, xcR_i, xcV_i, xcI_e, xcJ_e, xcR_e, xcV_e, if_true, if_false, ite_true, ite_false, true_and, and_true, false_and, and_false, or_true, true_or, or_false, false_or, not_true_eq_false, not_false_eq_true, eq_self, ne_eq, ↓reduceIte, Nat.reduceEqDiff, Nat.reduceLT, Nat.reduceLeDiff, Nat.reduceAdd, Nat.reduceMul, Nat.reduceSub, Int32.reduceLT, Int32.reduceLE, reduceCtorEq]
  | succ d ih =>
    intro i m hi hm
    obtain ⟨m, rfl⟩ := Nat.exists_eq_succ_of_ne_zero (Nat.ne_of_gt (Nat.zero_lt_of_lt hm))
    obtain ⟨a1, a2, a3, a4, a5, a6, a7, _⟩ := h5 i (by omega)
    have ih' := ih (i + 1) m (by omega) (by omega)
    rw [f_X12_levelOf_7.eq_2, h4]
    by_cases ht : ty i = 4
    · obtain ⟨c1, c2, c3, c4⟩ := a7 ht
      by_cases hq : kd i = k
      · simp (disch := omega) only [nn_add, nn_addl, l_add_nn, nn_sub, nn_subl, nn_m1, nn_mull, nn_t, nn_i, l_t, nn_lt, nn_le, nn_eq, nn_ltl, l_lt_nn, nn_lel, l_le_nn, nn_eql, l_eql, nn_nm1, xin_nn, xin_l, m1_lt, m1_le, m1_p, m1_z, dlt_T, dlt_F, dle_T, dle_F, deq_T, deq_F, sI_c, sI_n, sI_J, sI_E, sJ_c, sJ_n, sJ_I, sJ_E, sE_I, sE_J, sE_E, xcI_i, xcJ_i, xcR_i, xcV_i, xcI_e, xcJ_e, xcR_e, xcV_e, if_true, if_false, ite_true, ite_false, true_and, and_true, false_and, and_false, or_true, true_or, or_false, false_or, not_true_eq_false, not_false_eq_true, eq_self, ne_eq, ↓reduceIte, Nat.reduceEqDiff, Nat.reduceLT, Nat.reduceLeDiff, Nat.reduceAdd, Nat.reduceMul, Nat.reduceSub, Int32.reduceLT, Int32.reduceLE, reduceCtorEq, a6, ht, c3, hq, f_X12_levelOf_40, f_X12_levelOf_43]
        rw [← ih']
        simp (disch := omega) only [nn_add, nn_addl, l_add_nn, nn_sub, nn_subl, nn_m1, nn_mull, nn_t, nn_i, l_t, nn_lt, nn_le, nn_eq, nn_ltl, l_lt_nn, nn_lel, l_le_nn, nn_eql, l_eql, nn_nm1, xin_nn, xin_l, m1_lt, m1_le, m1_p, m1_z, dlt_T, dlt_F, dle_T, dle_F, deq_T, deq_F, sI_c, sI_n, sI_J, sI_E, sJ_c, sJ_n, sJ_I, sJ_E, sE_I, sE_J, sE_E, xcI_i, xcJ_i, xcR_i, xcV_i, xcI_e, xcJ_e, xcR_e, xcV_e, if_true, if_false, ite_true, ite_false, true_and, and_true, false_and, and_false, or_true, true_or, or_false, false_or, not_true_eq_false, not_false_eq_true, eq_self, ne_eq, ↓reduceIte, Nat.reduceEqDiff, Nat.reduceLT, Nat.reduceLeDiff, Nat.reduceAdd, Nat.reduceMul, Nat.reduceSub, Int32.reduceLT, Int32.reduceLE, reduceCtorEq, lst, lvl, ht, hq, lvI]
      · simp (disch := omega) only [nn_add, nn_addl, l_add_nn, nn_sub, nn_subl, nn_m1, nn_mull, nn_t, nn_i, l_t, nn_lt, nn_le, nn_eq, nn_ltl, l_lt_nn, nn_lel, l_le_nn, nn_eql, l_eql, nn_nm1, xin_nn, xin_l, m1_lt, m1_le, m1_p, m1_z, dlt_T, dlt_F, dle_T, dle_F, deq_T, deq_F, sI_c, sI_n, sI_J, sI_E, sJ_c, sJ_n, sJ_I, sJ_E, sE_I, sE_J, sE_E, xcI_i, xcJ_i, xcR_i, xcV_i, xcI_e, xcJ_e, xcR_e, xcV_e, if_true, if_false, ite_true, ite_false, true_and, and_true, false_and, and_false, or_true, true_or, or_false, false_or, not_true_eq_false, not_false_eq_true, eq_self, ne_eq, ↓reduceIte, Nat.reduceEqDiff, Nat.reduceLT, Nat.reduceLeDiff, Nat.reduceAdd, Nat.reduceMul, Nat.reduceSub, Int32.reduceLT, Int32.reduceLE, reduceCtorEq, a6, ht, c3, hq, f_X12_levelOf_40, f_X12_levelOf_43]
        rw [← ih']
        simp (disch := omega) only [nn_add, nn_addl, l_add_nn, nn_sub, nn_subl, nn_m1, nn_mull, nn_t, nn_i, l_t, nn_lt, nn_le, nn_eq, nn_ltl, l_lt_nn, nn_lel, l_le_nn, nn_eql, l_eql, nn_nm1, xin_nn, xin_l, m1_lt, m1_le, m1_p, m1_z, dlt_T, dlt_F, dle_T, dle_F, deq_T, deq_F, sI_c, sI_n, sI_J, sI_E, sJ_c, sJ_n, sJ_I, sJ_E, sE_I, sE_J, sE_E, xcI_i, xcJ_i, xcR_i, xcV_i, xcI_e, xcJ_e, xcR_e, xcV_e, if_true, if_false, ite_true, ite_false, true_and, and_true, false_and, and_false, or_true, true_or, or_false, false_or, not_true_eq_false, not_false_eq_true, eq_self, ne_eq, ↓reduceIte, Nat.reduceEqDiff, Nat.reduceLT, Nat.reduceLeDiff, Nat.reduceAdd, Nat.reduceMul, Nat.reduceSub, Int32.reduceLT, Int32.reduceLE, reduceCtorEq, lst, lvl, ht, hq]
    · simp (disch := omega) only [nn_add, nn_addl, l_add_nn, nn_sub, nn_subl, nn_m1, nn_mull, nn_t, nn_i, l_t, nn_lt, nn_le, nn_eq, nn_ltl, l_lt_nn, nn_lel, l_le_nn, nn_eql, l_eql, nn_nm1, xin_nn, xin_l, m1_lt, m1_le, m1_p, m1_z, dlt_T, dlt_F, dle_T, dle_F, deq_T, deq_F, sI_c, sI_n, sI_J, sI_E, sJ_c, sJ_n, sJ_I, sJ_E, sE_I, sE_J, sE_E, xcI_i, xcJ_i, xcR_i, xcV_i, xcI_e, xcJ_e, xcR_e, xcV_e, if_true, if_false, ite_true, ite_false, true_and, and_true, false_and, and_false, or_true, true_or, or_false, false_or, not_true_eq_false, not_false_eq_true, eq_self, ne_eq, ↓reduceIte, Nat.reduceEqDiff, Nat.reduceLT, Nat.reduceLeDiff, Nat.reduceAdd, Nat.reduceMul, Nat.reduceSub, Int32.reduceLT, Int32.reduceLE, reduceCtorEq, a6, f_X12_levelOf_43]
      rw [← ih']
      simp (disch := omega) only [nn_add, nn_addl, l_add_nn, nn_sub, nn_subl, nn_m1, nn_mull, nn_t, nn_i, l_t, nn_lt, nn_le, nn_eq, nn_ltl, l_lt_nn, nn_lel, l_le_nn, nn_eql, l_eql, nn_nm1, xin_nn, xin_l, m1_lt, m1_le, m1_p, m1_z, dlt_T, dlt_F, dle_T, dle_F, deq_T, deq_F, sI_c, sI_n, sI_J, sI_E, sJ_c, sJ_n, sJ_I, sJ_E, sE_I, sE_J, sE_E, xcI_i, xcJ_i, xcR_i, xcV_i, xcI_e, xcJ_e, xcR_e, xcV_e, if_true, if_false, ite_true, ite_false, true_and, and_true, false_and, and_false, or_true, true_or, or_false, false_or, not_true_eq_false, not_false_eq_true, eq_self, ne_eq, ↓reduceIte, Nat.reduceEqDiff, Nat.reduceLT, Nat.reduceLeDiff, Nat.reduceAdd, Nat.reduceMul, Nat.reduceSub, Int32.reduceLT, Int32.reduceLE, reduceCtorEq, lst, lvl, ht, Nat.add_zero]
theorem p_lvs_l (h : r_bk Sc Sr nb ns ty op kd A nk) : ∀ d i m, i + d = nb → d < m → f_X12_levels_4 N m (nn (lvl ty i)) (nn i) Sr = some (rI (nn (lvl ty nb)) Sr) := by
  obtain ⟨h1, h2, h3, h4, h5⟩ := h
  intro d
  induction d with
  | zero =>
    intro i m hi hm
    obtain ⟨m, rfl⟩ := Nat.exists_eq_succ_of_ne_zero (Nat.ne_of_gt (Nat.zero_lt_of_lt hm))
    have : i = nb := by omega
    subst this
    rw [f_X12_levels_4.eq_2, h4]
    simp (disch := omega) only [nn_add, nn_addl, l_add_nn, nn_sub, nn_subl, nn_m1, nn_mull, nn_t, nn_i, l_t, nn_lt, nn_le, nn_eq, nn_ltl, l_lt_nn, nn_lel, l_le_nn, nn_eql, l_eql, nn_nm1, xin_nn, xin_l, m1_lt, m1_le, m1_p, m1_z, dlt_T, dlt_F, dle_T, dle_F, deq_T, deq_F, sI_c, sI_n, sI_J, sI_E, sJ_c, sJ_n, sJ_I, sJ_E, sE_I, sE_J, sE_E, xcI_i, xcJ_i, xcR_i, xcV_i, xcI_e, xcJ_e, xcR_e, xcV_e, if_true, if_false, ite_true, ite_false, true_and, and_true, false_and, and_false, or_true, true_or, or_false, false_or, not_true_eq_false, not_false_eq_true, eq_self, ne_eq, ↓reduceIte, Nat.reduceEqDiff, Nat.reduceLT, Nat.reduceLeDiff, Nat.reduceAdd, Nat.reduceMul, Nat.reduceSub, Int32.reduceLT, Int32.reduceLE, reduceCtorEq]
  | succ d ih =>
    intro i m hi hm
    obtain ⟨m, rfl⟩ := Nat.exists_eq_succ_of_ne_zero (Nat.ne_of_gt (Nat.zero_lt_of_lt hm))
    obtain ⟨a1, a2, a3, a4, a5, a6, a7, _⟩ := h5 i (by omega)
    have ih' := ih (i + 1) m (by omega) (by omega)
    rw [f_X12_levels_4.eq_2, h4]
    by_cases ht : ty i = 4
    · simp (disch := omega) only [nn_add, nn_addl, l_add_nn, nn_sub, nn_subl, nn_m1, nn_mull, nn_t, nn_i, l_t, nn_lt, nn_le, nn_eq, nn_ltl, l_lt_nn, nn_lel, l_le_nn, nn_eql, l_eql, nn_nm1, xin_nn, xin_l, m1_lt, m1_le, m1_p, m1_z, dlt_T, dlt_F, dle_T, dle_F, deq_T, deq_F, sI_c, sI_n, sI_J, sI_E, sJ_c, sJ_n, sJ_I, sJ_E, sE_I, sE_J, sE_E, xcI_i, xcJ_i, xcR_i, xcV_i, xcI_e, xcJ_e, xcR_e, xcV_e, if_true, if_false, ite_true, ite_false, true_and, and_true, false_and, and_false, or_true, true_or, or_false, false_or, not_true_eq_false, not_false_eq_true, eq_self, ne_eq, ↓reduceIte, Nat.reduceEqDiff, Nat.reduceLT, Nat.reduceLeDiff, Nat.reduceAdd, Nat.reduceMul, Nat.reduceSub, Int32.reduceLT, Int32.reduceLE, reduceCtorEq, a6, ht, f_X12_levels_28]
      rw [← ih']
      simp (disch := omega) only [nn_add, nn_addl, l_add_nn, nn_sub, nn_subl, nn_m1, nn_mull, nn_t, nn_i, l_t, nn_lt, nn_le, nn_eq, nn_ltl, l_lt_nn, nn_lel, l_le_nn, nn_eql, l_eql, nn_nm1, xin_nn, xin_l, m1_lt, m1_le, m1_p, m1_z, dlt_T, dlt_F, dle_T, dle_F, deq_T, deq_F, sI_c, sI_n, sI_J, sI_E, sJ_c, sJ_n, sJ_I, sJ_E, sE_I, sE_J, sE_E, xcI_i, xcJ_i, xcR_i, xcV_i, xcI_e, xcJ_e, xcR_e, xcV_e, if_true, if_false, ite_true, ite_false, true_and, and_true, false_and, and_false, or_true, true_or, or_false, false_or, not_true_eq_false, not_false_eq_true, eq_self, ne_eq, ↓reduceIte, Nat.reduceEqDiff, Nat.reduceLT, Nat.reduceLeDiff, Nat.reduceAdd, Nat.reduceMul, Nat.reduceSub, Int32.reduceLT, Int32.reduceLE, reduceCtorEq, lvl, ht]
    · simp (disch := omega) only [nn_add, nn_addl, l_add_nn, nn_sub, nn_subl, nn_m1, nn_mull, nn_t, nn_i, l_t, nn_lt, nn_le, nn_eq, nn_ltl, l_lt_nn, nn_lel, l_le_nn, nn_eql, l_eql, nn_nm1, xin_nn, xin_l, m1_lt, m1_le, m1_p, m1_z, dlt_T, dlt_F, dle_T, dle_F, deq_T, deq_F, sI_c, sI_n, sI_J, sI_E, sJ_c, sJ_n, sJ_I, sJ_E, sE_I, sE_J, sE_E, xcI_i, xcJ_i, xcR_i, xcV_i, xcI_e, xcJ_e, xcR_e, xcV_e, if_true, if_false, ite_true, ite_false, true_and, and_true, false_and, and_false, or_true, true_or, or_false, false_or, not_true_eq_false, not_false_eq_true, eq_self, ne_eq, ↓reduceIte, Nat.reduceEqDiff, Nat.reduceLT, Nat.reduceLeDiff, Nat.reduceAdd, Nat.reduceMul, Nat.reduceSub, Int32.reduceLT, Int32.reduceLE, reduceCtorEq, a6, f_X12_levels_28]
      rw [← ih']
      simp (disch := omega) only [nn_add, nn_addl, l_add_nn, nn_sub, nn_subl, nn_m1, nn_mull, nn_t, nn_i, l_t, nn_lt, nn_le, nn_eq, nn_ltl, l_lt_nn, nn_lel, l_le_nn, nn_eql, l_eql, nn_nm1, xin_nn, xin_l, m1_lt, m1_le, m1_p, m1_z, dlt_T, dlt_F, dle_T, dle_F, deq_T, deq_F, sI_c, sI_n, sI_J, sI_E, sJ_c, sJ_n, sJ_I, sJ_E, sE_I, sE_J, sE_E, xcI_i, xcJ_i, xcR_i, xcV_i, xcI_e, xcJ_e, xcR_e, xcV_e, if_true, if_false, ite_true, ite_false, true_and, and_true, false_and, and_false, or_true, true_or, or_false, false_or, not_true_eq_false, not_false_eq_true, eq_self, ne_eq, ↓reduceIte, Nat.reduceEqDiff, Nat.reduceLT, Nat.reduceLeDiff, Nat.reduceAdd, Nat.reduceMul, Nat.reduceSub, Int32.reduceLT, Int32.reduceLE, reduceCtorEq, lvl, ht, Nat.add_zero]
theorem p_levels (hN : 100 < N) (h : r_bk Sc Sr nb ns ty op kd A nk) : f_X12_levels N Sr = some (rI (nn (lvl ty nb)) Sr) := p_lvs_l h nb 0 N (by omega) (by have := h.1; omega)
theorem p_levelOf (hN : 100 < N) (h : r_bk Sc Sr nb ns ty op kd A nk) (hk7 : nk ≤ 7) {k : Nat} (hk : k < 7) : f_X12_levelOf N (nn k) Sr = some (rI (lvI ty (lst ty kd k nb)) Sr) := p_lev_l h hk7 hk nb 0 N (by omega) (by have := h.1; omega)
variable {m t nv : Nat} {s wd : Nat → Nat}
/-- the cursor of the kind that the token names, where it names one -/
theorem p_cursor (hN : 100 < N) (hP : r_P Sc Sr m s t nk nv wd) (h : r_bk Sc Sr nb ns ty op kd A nk) (hs : s t = 40) {k : Nat} (hk : k < nk) (hf : f_X3_kind N (Sc.2.1 6 t) Sc = some (rI (nn (k + 1)) Sc)) :
    f_X7_cursor N Sc = match lst ty kd k nb with
    | some i => some (rI (nn i) Sc)
    | none => some (rA (sE Sc)) := by
  have n7 := hP.2.2.2.2.2.1.1
  have e := h.2.2.1
  have n10 := h.1
  have := p_cur_l (N := N) h n7 (k := k) (by omega) nb N (Nat.le_refl _) (by omega)
  rw [← this]
  simp only [f_X7_cursor, p_name1 hP hs, xcJ_i, xcI_i, hf, e]
theorem p_cursor0 (hN : 100 < N) (hP : r_P Sc Sr m s t nk nv wd) (h : r_bk Sc Sr nb ns ty op kd A nk) (hs : ¬ s t = 40 ∨ f_X3_kind N (Sc.2.1 6 t) Sc = some (rI 0 Sc)) :
    f_X7_cursor N Sc = some (rA (sE Sc)) := by
  have n7 := hP.2.2.2.2.2.1.1
  have e := h.2.2.1
  have n10 := h.1
  have := p_cur0_l (N := N) h n7 nb N (Nat.le_refl _) (by omega)
  rw [← this]
  by_cases h4 : s t = 40
  · have h5 := hs.resolve_left (fun z => z h4)
    simp only [f_X7_cursor, p_name1 hP h4, xcJ_i, xcI_i, h5, e]
  · simp only [f_X7_cursor, p_name0 hP h4, xcJ_i, xcI_i, p_kind0 hN hP.2.2.2.2.2.1.nm hP.2.2.2.2.2.2.1, e]
end BK
