/-! 78: turns -/
section TU
variable {N n t i p : Nat} {S Sc Sr Sc' Sr' : xS} {ow : Nat → Nat} {nk sn nv ns np nu fu sp ou : Nat} {wd A : Nat → Nat} {D : Nat → xD} {sc : Nat → Nat → Nat → Prop}
theorem PRG_A (h : PRG Sc Sr ns np nu nk nv wd A D) : ∀ j i, i + j ≤ ns → A i + j ≤ A (i + j) := by
  intro j
  induction j with
  | zero => intro i _; exact Nat.le_refl _
  | succ j ih =>
    intro i hi
    have := ih i (by omega)
    obtain ⟨_, _, ⟨L, _, _, e, e2⟩, _⟩ := h.2.2.2.2.2.2.2.2.1 (i + j) (by omega)
    have e3 : A (i + (j + 1)) = A (i + j) + L.length + tgl (D (i + j)).1 := e
    omega
theorem PRG_lt (h : PRG Sc Sr ns np nu nk nv wd A D) (hi : i < ns) : A i < A ns ∧ A (i + 1) ≤ A ns := by
  have h1 := PRG_A h (ns - i) i (by omega)
  have h2 := PRG_A h (ns - (i + 1)) (i + 1) (by omega)
  rw [show i + (ns - i) = ns by omega] at h1
  rw [show i + 1 + (ns - (i + 1)) = ns by omega] at h2
  omega
theorem r_turn {a : Nat} (h : PRG Sc Sr ns np nu nk nv wd A D) (ha : a < A ns) : f_X12_run_58 N (n + 1) (nn a) Sr = xcI (f_X12_step N (nn a) Sr) (fun v S => f_X12_run_58 N n v S) := by
  obtain ⟨h1, h2, h3, h4, h5, h6, h7, _⟩ := h
  rw [f_X12_run_58.eq_2, if_neg (by simp (disch := omega) only [nn_add, nn_addl, l_add_nn, nn_sub, nn_subl, nn_m1, nn_mull, nn_t, nn_i, l_t, nn_lt, nn_le, nn_eq, nn_ltl, l_lt_nn, nn_lel, l_le_nn, nn_eql, l_eql, nn_nm1, xin_nn, xin_l, m1_lt, m1_le, m1_p, m1_z, dlt_T, dlt_F, dle_T, dle_F, deq_T, deq_F, sI_c, sI_n, sI_J, sI_E, sJ_c, sJ_n, sJ_I, sJ_E, sE_I, sE_J, sE_E, xcI_i, xcJ_i, xcR_i, xcV_i, xcI_e, xcJ_e, xcR_e, xcV_e, if_true, if_false, ite_true, ite_false, true_and, and_true, false_and, and_false, or_true, true_or, or_false, false_or, not_true_eq_false, not_false_eq_true, eq_self, ne_eq, ↓reduceIte, Nat.reduceEqDiff, Nat.reduceLT, Nat.reduceLeDiff, Nat.reduceAdd, Nat.reduceMul, Nat.reduceSub, Int32.reduceLT, Int32.reduceLE, reduceCtorEq]), h6, if_neg (by simp (disch := omega) only [nn_add, nn_addl, l_add_nn, nn_sub, nn_subl, nn_m1, nn_mull, nn_t, nn_i, l_t, nn_lt, nn_le, nn_eq, nn_ltl, l_lt_nn, nn_lel, l_le_nn, nn_eql, l_eql, nn_nm1, xin_nn, xin_l, m1_lt, m1_le, m1_p, m1_z, dlt_T, dlt_F, dle_T, dle_F, deq_T, deq_F, sI_c, sI_n, sI_J, sI_E, sJ_c, sJ_n, sJ_I, sJ_E, sE_I, sE_J, sE_E, xcI_i, xcJ_i, xcR_i, xcV_i, xcI_e, xcJ_e, xcR_e, xcV_e, if_true, if_false, ite_true, ite_false, true_and, and_true, false_and, and_false, or_true, true_or, or_false, false_or, not_true_eq_false, not_false_eq_true, eq_self, ne_eq, ↓reduceIte, Nat.reduceEqDiff, Nat.reduceLT, Nat.reduceLeDiff, Nat.reduceAdd, Nat.reduceMul, Nat.reduceSub, Int32.reduceLT, Int32.reduceLE, reduceCtorEq])]
theorem r_stop1 : f_X12_run_58 N (n + 1) (-1) S = some (rI 1 S) := by
  rw [f_X12_run_58.eq_2, if_pos (by decide)]
  unfold f_X12_run_79 f_X12_run_89
  rw [if_neg (by decide)]
  rfl
theorem r_stop2 : f_X12_run_58 N (n + 1) (-2) S = some (rI 2 S) := by
  rw [f_X12_run_58.eq_2, if_pos (by decide)]
  unfold f_X12_run_79 f_X12_run_89
  rw [if_neg (by decide)]
  rfl
theorem c_turn (h : PRG Sc Sr ns np nu nk nv wd A D) (hi : i < ns) (ht : t < 1000000) (ha : ¬ (D i).1 = 48) (ha2 : ¬ (D i).1 = 49) : f_X2_goThrough_14 N (n + 1) (nn i) (nn t) Sc = xcI (f_X2_spend N Sc) (fun v80 S79 => if v80 = 0 then some (.inl (some (.inl 1)), S79) else f_X2_goThrough_74 N (f_X2_goThrough_14 N n) (nn (i + 1)) (nn t) (102 + 2 * i) S79) := by
  obtain ⟨h1, h2, h3, h4, h5, h6, h7, h8, h9, _⟩ := h
  obtain ⟨s1, s2, _⟩ := h9 i hi
  have ei : (nn i).toNatClampNeg = i := nn_t (by omega)
  rw [f_X2_goThrough_14.eq_2, if_neg (by simp (disch := omega) only [nn_add, nn_addl, l_add_nn, nn_sub, nn_subl, nn_m1, nn_mull, nn_t, nn_i, l_t, nn_lt, nn_le, nn_eq, nn_ltl, l_lt_nn, nn_lel, l_le_nn, nn_eql, l_eql, nn_nm1, xin_nn, xin_l, m1_lt, m1_le, m1_p, m1_z, dlt_T, dlt_F, dle_T, dle_F, deq_T, deq_F, sI_c, sI_n, sI_J, sI_E, sJ_c, sJ_n, sJ_I, sJ_E, sE_I, sE_J, sE_E, xcI_i, xcJ_i, xcR_i, xcV_i, xcI_e, xcJ_e, xcR_e, xcV_e, if_true, if_false, ite_true, ite_false, true_and, and_true, false_and, and_false, or_true, true_or, or_false, false_or, not_true_eq_false, not_false_eq_true, eq_self, ne_eq, ↓reduceIte, Nat.reduceEqDiff, Nat.reduceLT, Nat.reduceLeDiff, Nat.reduceAdd, Nat.reduceMul, Nat.reduceSub, Int32.reduceLT, Int32.reduceLE, reduceCtorEq]), h4, if_neg (by simp (disch := omega) only [nn_add, nn_addl, l_add_nn, nn_sub, nn_subl, nn_m1, nn_mull, nn_t, nn_i, l_t, nn_lt, nn_le, nn_eq, nn_ltl, l_lt_nn, nn_lel, l_le_nn, nn_eql, l_eql, nn_nm1, xin_nn, xin_l, m1_lt, m1_le, m1_p, m1_z, dlt_T, dlt_F, dle_T, dle_F, deq_T, deq_F, sI_c, sI_n, sI_J, sI_E, sJ_c, sJ_n, sJ_I, sJ_E, sE_I, sE_J, sE_E, xcI_i, xcJ_i, xcR_i, xcV_i, xcI_e, xcJ_e, xcR_e, xcV_e, if_true, if_false, ite_true, ite_false, true_and, and_true, false_and, and_false, or_true, true_or, or_false, false_or, not_true_eq_false, not_false_eq_true, eq_self, ne_eq, ↓reduceIte, Nat.reduceEqDiff, Nat.reduceLT, Nat.reduceLeDiff, Nat.reduceAdd, Nat.reduceMul, Nat.reduceSub, Int32.reduceLT, Int32.reduceLE, reduceCtorEq]), if_pos ((xin_nn (by omega)).mpr (by omega)), ei, s1, if_neg (by simp (disch := omega) only [nn_add, nn_addl, l_add_nn, nn_sub, nn_subl, nn_m1, nn_mull, nn_t, nn_i, l_t, nn_lt, nn_le, nn_eq, nn_ltl, l_lt_nn, nn_lel, l_le_nn, nn_eql, l_eql, nn_nm1, xin_nn, xin_l, m1_lt, m1_le, m1_p, m1_z, dlt_T, dlt_F, dle_T, dle_F, deq_T, deq_F, sI_c, sI_n, sI_J, sI_E, sJ_c, sJ_n, sJ_I, sJ_E, sE_I, sE_J, sE_E, xcI_i, xcJ_i, xcR_i, xcV_i, xcI_e, xcJ_e, xcR_e, xcV_e, if_true, if_false, ite_true, ite_false, true_and, and_true, false_and, and_false, or_true, true_or, or_false, false_or, not_true_eq_false, not_false_eq_true, eq_self, ne_eq, ↓reduceIte, Nat.reduceEqDiff, Nat.reduceLT, Nat.reduceLeDiff, Nat.reduceAdd, Nat.reduceMul, Nat.reduceSub, Int32.reduceLT, Int32.reduceLE, reduceCtorEq]), if_neg (by simp (disch := omega) only [nn_add, nn_addl, l_add_nn, nn_sub, nn_subl, nn_m1, nn_mull, nn_t, nn_i, l_t, nn_lt, nn_le, nn_eq, nn_ltl, l_lt_nn, nn_lel, l_le_nn, nn_eql, l_eql, nn_nm1, xin_nn, xin_l, m1_lt, m1_le, m1_p, m1_z, dlt_T, dlt_F, dle_T, dle_F, deq_T, deq_F, sI_c, sI_n, sI_J, sI_E, sJ_c, sJ_n, sJ_I, sJ_E, sE_I, sE_J, sE_E, xcI_i, xcJ_i, xcR_i, xcV_i, xcI_e, xcJ_e, xcR_e, xcV_e, if_true, if_false, ite_true, ite_false, true_and, and_true, false_and, and_false, or_true, true_or, or_false, false_or, not_true_eq_false, not_false_eq_true, eq_self, ne_eq, ↓reduceIte, Nat.reduceEqDiff, Nat.reduceLT, Nat.reduceLeDiff, Nat.reduceAdd, Nat.reduceMul, Nat.reduceSub, Int32.reduceLT, Int32.reduceLE, reduceCtorEq]), nn_addl]
theorem c_turn2 (h : PRG Sc Sr ns np nu nk nv wd A D) (hi : i < ns) (ht : t < 1000000) (ha : (D i).1 = 48 ∨ (D i).1 = 49) : f_X2_goThrough_14 N (n + 1) (nn i) (nn t) Sc = f_X2_goThrough_74 N (f_X2_goThrough_14 N n) (nn (i + 1)) (nn t) (102 + 2 * i) Sc := by
  obtain ⟨h1, h2, h3, h4, h5, h6, h7, h8, h9, _⟩ := h
  obtain ⟨s1, s2, _⟩ := h9 i hi
  have ei : (nn i).toNatClampNeg = i := nn_t (by omega)
  rw [f_X2_goThrough_14.eq_2, if_neg (by simp (disch := omega) only [nn_add, nn_addl, l_add_nn, nn_sub, nn_subl, nn_m1, nn_mull, nn_t, nn_i, l_t, nn_lt, nn_le, nn_eq, nn_ltl, l_lt_nn, nn_lel, l_le_nn, nn_eql, l_eql, nn_nm1, xin_nn, xin_l, m1_lt, m1_le, m1_p, m1_z, dlt_T, dlt_F, dle_T, dle_F, deq_T, deq_F, sI_c, sI_n, sI_J, sI_E, sJ_c, sJ_n, sJ_I, sJ_E, sE_I, sE_J, sE_E, xcI_i, xcJ_i, xcR_i, xcV_i, xcI_e, xcJ_e, xcR_e, xcV_e, if_true, if_false, ite_true, ite_false, true_and, and_true, false_and, and_false, or_true, true_or, or_false, false_or, not_true_eq_false, not_false_eq_true, eq_self, ne_eq, ↓reduceIte, Nat.reduceEqDiff, Nat.reduceLT, Nat.reduceLeDiff, Nat.reduceAdd, Nat.reduceMul, Nat.reduceSub, Int32.reduceLT, Int32.reduceLE, reduceCtorEq]), h4, if_neg (by simp (disch := omega) only [nn_add, nn_addl, l_add_nn, nn_sub, nn_subl, nn_m1, nn_mull, nn_t, nn_i, l_t, nn_lt, nn_le, nn_eq, nn_ltl, l_lt_nn, nn_lel, l_le_nn, nn_eql, l_eql, nn_nm1, xin_nn, xin_l, m1_lt, m1_le, m1_p, m1_z, dlt_T, dlt_F, dle_T, dle_F, deq_T, deq_F, sI_c, sI_n, sI_J, sI_E, sJ_c, sJ_n, sJ_I, sJ_E, sE_I, sE_J, sE_E, xcI_i, xcJ_i, xcR_i, xcV_i, xcI_e, xcJ_e, xcR_e, xcV_e, if_true, if_false, ite_true, ite_false, true_and, and_true, false_and, and_false, or_true, true_or, or_false, false_or, not_true_eq_false, not_false_eq_true, eq_self, ne_eq, ↓reduceIte, Nat.reduceEqDiff, Nat.reduceLT, Nat.reduceLeDiff, Nat.reduceAdd, Nat.reduceMul, Nat.reduceSub, Int32.reduceLT, Int32.reduceLE, reduceCtorEq]), if_pos ((xin_nn (by omega)).mpr (by omega)), ei, s1, nn_addl]
  rcases ha with z | z
  · rw [z, if_neg (by decide), if_pos (show nn 48 = 48 from rfl)]
  · rw [z, if_pos (show nn 49 = 49 from rfl)]
/-- what a step costs -/
theorem t_pay (h : PRG Sc Sr ns np nu nk nv wd A D) (hi : i < ns) (ha : ¬ (D i).1 = 48) (ha2 : ¬ (D i).1 = 49) (h0 : Sr.1 518 (A i) = nn 100) (hM : RM Sc Sr fu sp ou) :
    (sp = fu ∧ (∀ n t, t < 1000000 → f_X2_goThrough_14 N (n + 1) (nn i) (nn t) Sc = some (rI 1 Sc)) ∧ ∀ n, f_X12_run_58 N (n + 2) (nn (A i)) Sr = some (rI 1 Sr)) ∨
    (sp < fu ∧ (∀ n t, t < 1000000 → f_X2_goThrough_14 N (n + 1) (nn i) (nn t) Sc = f_X2_goThrough_74 N (f_X2_goThrough_14 N n) (nn (i + 1)) (nn t) (102 + 2 * i) (sI Sc 409 10 (nn (sp + 1)))) ∧ (∀ n, f_X12_run_58 N (n + 1) (nn (A i)) Sr = f_X12_run_58 N n (nn (A i + 1)) (sI Sr 503 36 (nn (sp + 1)))) ∧ RM (sI Sc 409 10 (nn (sp + 1))) (sI Sr 503 36 (nn (sp + 1))) fu (sp + 1) ou) := by
  obtain ⟨q1, q2⟩ := PRG_lt h hi
  have h7 := h.2.2.2.2.2.2.1
  rcases p_spend (N := N) hM with ⟨r1, r2, r3⟩ | ⟨r1, r2, r3, r4⟩
  · refine Or.inl ⟨r1, fun n t ht => ?_, fun n => ?_⟩
    · rw [c_turn h hi ht ha ha2, xcI_of r2, if_pos rfl]
    · rw [r_turn h q1, r_disp (by omega) h0 (by decide), if_pos rfl, xcI_of r3, if_pos rfl]
      unfold f_X12_step_82
      rw [xcI_i]
      exact r_stop1
  · refine Or.inr ⟨r1, fun n t ht => ?_, fun n => ?_, r4⟩
    · rw [c_turn h hi ht ha ha2, xcI_of r2, if_neg (by decide)]
    · rw [r_turn h q1, r_disp (by omega) h0 (by decide), if_pos rfl, xcI_of r3, if_neg (by decide)]
      unfold f_X12_step_82
      rw [xcI_i, nn_addl]
/-- an expression's value is put by -/
theorem t_inl {a : Nat} {E : List xCe} (hN : 2000000 < N) (h : PRG Sc Sr ns np nu nk nv wd A D) (hR : RT Sc Sr ow nk wd sn nv sc) (hm : Sr.1 503 39 = nn 0) (hs : seg (Sr.1 518) a (inl E)) (ha : a + (inl E).length ≤ A ns) (hX : EXC Sc np 0 (sc2 sc) p E) :
    ∃ Sr2, (∀ n, f_X12_run_58 N (n + 1) (nn a) Sr = f_X12_run_58 N n (nn (a + (inl E).length)) (sI (sI Sr2 525 0 (evv ow (Sc.1 410) (fun v f => Sc.1 (32 + v) f) (cvC Sc) E)) 503 39 (nn 1))) ∧ k524 Sr Sr2 := by
  obtain ⟨x1, x2, x3, x4, x5⟩ := hX
  have hnp := h.2.1
  have h7 := h.2.2.2.2.2.2.1
  have hl : (inl E).length = (cE E).length + 2 := by unfold inl; simp
  have c0 : Sr.1 518 a = nn 112 := by
    have := hs 0 (by rw [hl]; omega)
    rw [Nat.add_zero] at this
    exact this
  have c1 : Sr.1 518 (a + 1) = nn (cE E).length := hs 1 (by rw [hl]; omega)
  have c2 : seg (Sr.1 518) (a + 2) (cE E) := by
    have e : inl E = [112, nn (cE E).length] ++ cE E := rfl
    rw [e] at hs
    exact (seg_app.mp hs).2
  obtain ⟨Sr2, r1, r2⟩ := p_valueR (N := N) (x1 := nn (a + 2)) (xl := nn (cE E).length) (x6 := 0) hN rfl rfl (RT_r hR) x3 x4 c2 (by omega) (by omega)
  refine ⟨Sr2, fun n => ?_, r2⟩
  have t1 : (nn (a + 1)).toNatClampNeg = a + 1 := nn_t (by omega)
  have e1 : (nn a + 1 : Int32) = nn (a + 1) := nn_addl a 1
  have e2 : (nn a + 2 : Int32) = nn (a + 2) := nn_addl a 2
  have m2 : Sr2.1 503 39 = nn 0 := by rw [r2.1 503 (by decide)]; exact hm
  have d1 : Sr2.1 518 (a + 1) = nn (cE E).length := by rw [r2.1 518 (by decide)]; exact c1
  rw [r_turn h (by omega), r_disp (by omega) c0 (by decide), if_neg (by decide), if_neg (by decide), if_neg (by decide), if_neg (by decide), if_neg (by decide), if_neg (by decide), if_neg (by decide), if_neg (by decide), if_neg (by decide), if_neg (by decide), if_neg (by decide), if_neg (by decide)]
  simp only [e1, e2, t1, c1, if_pos ((xin_nn (a := a + 1) (n := 3000) (by omega)).mpr (by omega))]
  rw [xcI_of r1]
  simp only [hm, m2, d1]
  rw [if_pos (by decide), xcI_i, nn_add, nn_addl, hl, show a + 2 + (cE E).length = a + ((cE E).length + 2) by omega]
  rfl
end TU
