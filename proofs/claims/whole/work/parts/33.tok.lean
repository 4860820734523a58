/-! 33: tokens, what takes them -/
def sg (k : Nat) : Nat := [61, 60, 62, 43, 45, 42, 47, 37, 40, 41, 123, 125, 44, 59, 58, 46, 289, 316, 318].getD (k - 21) 0
def tkr (k : Nat) : Nat := if k = 0 then 0 else if k ≤ 20 then 3 else if k ≤ 39 then 4 else if k = 40 then 1 else if k = 41 then 2 else if k = 42 then 8 else 7
def tki (k : Nat) : Nat := if k ≤ 20 then k - 1 else sg k
def r_t1 (Sc Sr : xS) (s : Nat → Nat) (i : Nat) : Prop := Sc.1 4 i = nn (s i) ∧ Sr.1 514 i = nn (tkr (s i)) ∧ (∃ pl, pl ≤ 500 ∧ Sc.1 5 i = nn pl ∧ Sr.1 515 i = nn pl) ∧ (1 ≤ s i → s i ≤ 39 → Sr.2.1 516 i = ll (tki (s i))) ∧ (s i = 40 → NmR (Sc.2.1 6 i) (Sr.2.1 516 i)) ∧ (s i = 41 → ∃ v, v < 2147483648 ∧ Sc.2.1 6 i = ll v ∧ Sr.2.1 516 i = ll v)
def r_tk (Sc Sr : xS) (m : Nat) (s : Nat → Nat) : Prop := m ≤ 150 ∧ (∃ cnt, m ≤ cnt ∧ cnt ≤ 150 ∧ Sc.1 1 6 = nn cnt ∧ (s m = 0 → cnt = m)) ∧ Sr.1 503 18 = nn m ∧ (s m = 0 ∨ s m = 42 ∨ s m = 43) ∧ (∀ i, i < m → 1 ≤ s i ∧ s i ≤ 41) ∧ (∀ i, i ≤ m → r_t1 Sc Sr s i)
def r_nw (Sc Sr : xS) (nk nv : Nat) (wd : Nat → Nat) : Prop := nk ≤ 7 ∧ nv ≤ 20 ∧ (∀ k, k < nk → NmR (Sc.2.1 8 (k + 1)) (Sr.2.1 505 k)) ∧ (∀ k, k < nk → r_kd Sc Sr k (wd k)) ∧ (∀ v, v < nv → NmR (Sc.2.1 28 v) (Sr.2.1 509 v))
theorem r_nw.nm {Sc Sr : xS} {nk nv : Nat} {wd : Nat → Nat} (h : r_nw Sc Sr nk nv wd) : r_nm Sc Sr nk nv := ⟨h.1, h.2.1, h.2.2.1, fun k hk => ⟨wd k, h.2.2.2.1 k hk⟩, h.2.2.2.2⟩
def r_P (Sc Sr : xS) (m : Nat) (s : Nat → Nat) (t nk nv : Nat) (wd : Nat → Nat) : Prop := r_tk Sc Sr m s ∧ t ≤ m ∧ Sc.1 1 7 = nn t ∧ Sr.1 503 20 = nn t ∧ Sr.1 503 21 = -1 ∧ r_nw Sc Sr nk nv wd ∧ Sc.1 7 5 = nn nk ∧ Sr.1 503 3 = nn nk ∧ Sc.1 7 6 = nn nv ∧ Sr.1 503 8 = nn nv
def r_bad (Sc Sr : xS) (m : Nat) (s : Nat → Nat) (nk nv : Nat) (wd : Nat → Nat) : Prop := r_tk Sc Sr m s ∧ r_nw Sc Sr nk nv wd ∧ ∃ t, t ≤ m ∧ Sc.1 1 7 = nn t ∧ Sr.1 503 21 = if s t = 43 then 1000 else Sc.1 5 t
def badR (Sr : xS) (s : Nat → Nat) (t : Nat) : xS := sI Sr 503 21 (if s t = 43 then 1000 else Sr.1 515 t)
def agc (Sc Sc' : xS) : Prop := (∀ q, q < 97 → Sc'.1 q = Sc.1 q) ∧ Sc'.2.1 = Sc.2.1
def agr (Sr Sr' : xS) : Prop := (∀ q, 504 ≤ q → q ≤ 517 → Sr'.1 q = Sr.1 q) ∧ Sr'.2.1 = Sr.2.1 ∧ ∀ j, j ≤ 23 → Sr'.1 503 j = Sr.1 503 j
theorem agc_r (S : xS) : agc S S := ⟨fun _ _ => rfl, rfl⟩
theorem agr_r (S : xS) : agr S S := ⟨fun _ _ _ => rfl, rfl, fun _ _ => rfl⟩
theorem agc_t {A B C : xS} (h : agc A B) (g : agc B C) : agc A C := ⟨fun q hq => (g.1 q hq).trans (h.1 q hq), g.2.trans h.2⟩
theorem agr_t {A B C : xS} (h : agr A B) (g : agr B C) : agr A C := ⟨fun q a b => (g.1 q a b).trans (h.1 q a b), g.2.1.trans h.2.1, fun j hj => (g.2.2 j hj).trans (h.2.2 j hj)⟩
theorem agc_s {A B : xS} {q j : Nat} {v : Int32} (h : agc A B) (hq : 97 ≤ q) : agc A (sI B q j v) := agc_t h ⟨fun a ha => sI_n (by omega), rfl⟩
theorem agc_e {A B : xS} (h : agc A B) : agc A (sE B) := agc_t h ⟨fun _ _ => rfl, rfl⟩
theorem agr_s {A B : xS} {q j : Nat} {v : Int32} (h : agr A B) (hq : q < 503 ∨ 518 ≤ q) : agr A (sI B q j v) := agr_t h ⟨fun a _ _ => sI_n (by omega), rfl, fun i hi => by rw [sI_n (by omega)]⟩
theorem agr_f {A B : xS} {j : Nat} {v : Int32} (h : agr A B) (hj : 24 ≤ j) : agr A (sI B 503 j v) := agr_t h ⟨fun a _ _ => sI_n (by omega), rfl, fun i hi => by rw [sI_c, if_neg (by omega)]⟩
theorem r_kd_c {Sc Sr Sc' Sr' : xS} {k w : Nat} (h : r_kd Sc Sr k w) (hk : k < 7) (hc : agc Sc Sc') (hr : agr Sr Sr') : r_kd Sc' Sr' k w := by
  obtain ⟨h1, h2, h3, h4⟩ := h
  refine ⟨h1, by rw [hc.1 9 (by omega)]; exact h2, by rw [hr.1 506 (by omega) (by omega)]; exact h3, fun f hf => ?_⟩
  rw [hc.1 (20 + (k + 1)) (by omega), hr.1 508 (by omega) (by omega), hc.2, hr.2.1]
  exact h4 f hf
theorem r_nw_c {Sc Sr Sc' Sr' : xS} {nk nv : Nat} {wd : Nat → Nat} (h : r_nw Sc Sr nk nv wd) (hc : agc Sc Sc') (hr : agr Sr Sr') : r_nw Sc' Sr' nk nv wd := by
  obtain ⟨h1, h2, h3, h4, h5⟩ := h
  refine ⟨h1, h2, ?_, fun k hk => r_kd_c (h4 k hk) (by omega) hc hr, ?_⟩
  · rw [hc.2, hr.2.1]; exact h3
  · rw [hc.2, hr.2.1]; exact h5
theorem r_t1_c {Sc Sr Sc' Sr' : xS} {s : Nat → Nat} {i : Nat} (h : r_t1 Sc Sr s i) (hc : agc Sc Sc') (hr : agr Sr Sr') : r_t1 Sc' Sr' s i := by
  unfold r_t1
  rw [hc.1 4 (by omega), hc.1 5 (by omega), hr.1 514 (by omega) (by omega), hr.1 515 (by omega) (by omega), hc.2, hr.2.1]
  exact h
theorem r_tk_c {Sc Sr Sc' Sr' : xS} {m : Nat} {s : Nat → Nat} (h : r_tk Sc Sr m s) (hc : agc Sc Sc') (hr : agr Sr Sr') : r_tk Sc' Sr' m s := by
  obtain ⟨h1, h2, h3, h4, h5, h6⟩ := h
  refine ⟨h1, by rw [hc.1 1 (by omega)]; exact h2, by rw [hr.2.2 18 (by omega)]; exact h3, h4, h5, fun i hi => r_t1_c (h6 i hi) hc hr⟩
theorem r_P_c {Sc Sr Sc' Sr' : xS} {m t nk nv : Nat} {s wd : Nat → Nat} (h : r_P Sc Sr m s t nk nv wd) (hc : agc Sc Sc') (hr : agr Sr Sr') : r_P Sc' Sr' m s t nk nv wd := by
  obtain ⟨h1, h2, h3, h4, h5, h6, h7, h8, h9, h10⟩ := h
  refine ⟨r_tk_c h1 hc hr, h2, ?_, ?_, ?_, r_nw_c h6 hc hr, ?_, ?_, ?_, ?_⟩
  · rw [hc.1 1 (by omega)]; exact h3
  · rw [hr.2.2 20 (by omega)]; exact h4
  · rw [hr.2.2 21 (by omega)]; exact h5
  · rw [hc.1 7 (by omega)]; exact h7
  · rw [hr.2.2 3 (by omega)]; exact h8
  · rw [hc.1 7 (by omega)]; exact h9
  · rw [hr.2.2 8 (by omega)]; exact h10
theorem r_nw_m {Sc Sr : xS} {nk nv nk2 nv2 : Nat} {wd wd2 : Nat → Nat} (h : r_nw Sc Sr nk2 nv2 wd2) (h1 : nk ≤ nk2) (h2 : nv ≤ nv2) (h3 : ∀ k, k < nk → wd2 k = wd k) : r_nw Sc Sr nk nv wd := by
  obtain ⟨a1, a2, a3, a4, a5⟩ := h
  exact ⟨by omega, by omega, fun k hk => a3 k (by omega), fun k hk => by rw [← h3 k hk]; exact a4 k (by omega), fun v hv => a5 v (by omega)⟩
theorem r_bad_m {Sc Sr : xS} {m nk nv nk2 nv2 : Nat} {s wd wd2 : Nat → Nat} (h : r_bad Sc Sr m s nk2 nv2 wd2) (h1 : nk ≤ nk2) (h2 : nv ≤ nv2) (h3 : ∀ k, k < nk → wd2 k = wd k) : r_bad Sc Sr m s nk nv wd := ⟨h.1, r_nw_m h.2.1 h1 h2 h3, h.2.2⟩
section TK
variable {Sc Sr Sc' Sr' : xS} {m t nk nv N : Nat} {s wd : Nat → Nat}
/-- one token on -/
theorem r_P_n (h : r_P Sc Sr m s t nk nv wd) (ht : t < m) : r_P (sI Sc 1 7 (nn (t + 1))) (sI Sr 503 20 (nn (t + 1))) m s (t + 1) nk nv wd := by
  obtain ⟨h1, h2, h3, h4, h5, h6, h7, h8, h9, h10⟩ := h
  obtain ⟨a1, a2, a3, a4, a5, a6⟩ := h1
  refine ⟨⟨a1, by simp (disch := omega) only [nn_add, nn_addl, l_add_nn, nn_sub, nn_subl, nn_m1, nn_mull, nn_t, nn_i, l_t, nn_lt, nn_le, nn_eq, nn_ltl, l_lt_nn, nn_lel, l_le_nn, nn_eql, l_eql, nn_nm1, xin_nn, xin_l, m1_lt, m1_le, m1_p, m1_z, dlt_T, dlt_F, dle_T, dle_F, deq_T, deq_F, sI_c, sI_n, sI_J, sI_E, sJ_c, sJ_n, sJ_I, sJ_E, sE_I, sE_J, sE_E, xcI_i, xcJ_i, xcR_i, xcV_i, xcI_e, xcJ_e, xcR_e, xcV_e, if_true, if_false, ite_true, ite_false, true_and, and_true, false_and, and_false, or_true, true_or, or_false, false_or, not_true_eq_false, not_false_eq_true, eq_self, ne_eq, ↓reduceIte, Nat.reduceEqDiff, Nat.reduceLT, Nat.reduceLeDiff, Nat.reduceAdd, Nat.reduceMul, Nat.reduceSub, Int32.reduceLT, Int32.reduceLE, reduceCtorEq]; exact a2, by simp (disch := omega) only [nn_add, nn_addl, l_add_nn, nn_sub, nn_subl, nn_m1, nn_mull, nn_t, nn_i, l_t, nn_lt, nn_le, nn_eq, nn_ltl, l_lt_nn, nn_lel, l_le_nn, nn_eql, l_eql, nn_nm1, xin_nn, xin_l, m1_lt, m1_le, m1_p, m1_z, dlt_T, dlt_F, dle_T, dle_F, deq_T, deq_F, sI_c, sI_n, sI_J, sI_E, sJ_c, sJ_n, sJ_I, sJ_E, sE_I, sE_J, sE_E, xcI_i, xcJ_i, xcR_i, xcV_i, xcI_e, xcJ_e, xcR_e, xcV_e, if_true, if_false, ite_true, ite_false, true_and, and_true, false_and, and_false, or_true, true_or, or_false, false_or, not_true_eq_false, not_false_eq_true, eq_self, ne_eq, ↓reduceIte, Nat.reduceEqDiff, Nat.reduceLT, Nat.reduceLeDiff, Nat.reduceAdd, Nat.reduceMul, Nat.reduceSub, Int32.reduceLT, Int32.reduceLE, reduceCtorEq]; exact a3, a4, a5, fun i hi => ?_⟩, by omega, by simp (disch := omega) only [nn_add, nn_addl, l_add_nn, nn_sub, nn_subl, nn_m1, nn_mull, nn_t, nn_i, l_t, nn_lt, nn_le, nn_eq, nn_ltl, l_lt_nn, nn_lel, l_le_nn, nn_eql, l_eql, nn_nm1, xin_nn, xin_l, m1_lt, m1_le, m1_p, m1_z, dlt_T, dlt_F, dle_T, dle_F, deq_T, deq_F, sI_c, sI_n, sI_J, sI_E, sJ_c, sJ_n, sJ_I, sJ_E, sE_I, sE_J, sE_E, xcI_i, xcJ_i, xcR_i, xcV_i, xcI_e, xcJ_e, xcR_e, xcV_e, if_true, if_false, ite_true, ite_false, true_and, and_true, false_and, and_false, or_true, true_or, or_false, false_or, not_true_eq_false, not_false_eq_true, eq_self, ne_eq, ↓reduceIte, Nat.reduceEqDiff, Nat.reduceLT, Nat.reduceLeDiff, Nat.reduceAdd, Nat.reduceMul, Nat.reduceSub, Int32.reduceLT, Int32.reduceLE, reduceCtorEq], by simp (disch := omega) only [nn_add, nn_addl, l_add_nn, nn_sub, nn_subl, nn_m1, nn_mull, nn_t, nn_i, l_t, nn_lt, nn_le, nn_eq, nn_ltl, l_lt_nn, nn_lel, l_le_nn, nn_eql, l_eql, nn_nm1, xin_nn, xin_l, m1_lt, m1_le, m1_p, m1_z, dlt_T, dlt_F, dle_T, dle_F, deq_T, deq_F, sI_c, sI_n, sI_J, sI_E, sJ_c, sJ_n, sJ_I, sJ_E, sE_I, sE_J, sE_E, xcI_i, xcJ_i, xcR_i, xcV_i, xcI_e, xcJ_e, xcR_e, xcV_e, if_true, if_false, ite_true, ite_false, true_and, and_true, false_and, and_false, or_true, true_or, or_false, false_or, not_true_eq_false, not_false_eq_true, eq_self, ne_eq, ↓reduceIte, Nat.reduceEqDiff, Nat.reduceLT, Nat.reduceLeDiff, Nat.reduceAdd, Nat.reduceMul, Nat.reduceSub, Int32.reduceLT, Int32.reduceLE, reduceCtorEq], by simp (disch := omega) only [nn_add, nn_addl, l_add_nn, nn_sub, nn_subl, nn_m1, nn_mull, nn_t, nn_i, l_t, nn_lt, nn_le, nn_eq, nn_ltl, l_lt_nn, nn_lel, l_le_nn, nn_eql, l_eql, nn_nm1, xin_nn, xin_l, m1_lt, m1_le, m1_p, m1_z, dlt_T, dlt_F, dle_T, dle_F, deq_T, deq_F, sI_c, sI_n, sI_J, sI_E, sJ_c, sJ_n, sJ_I, sJ_E, sE_I, sE_J, sE_E, xcI_i, xcJ_i, xcR_i, xcV_i, xcI_e, xcJ_e, xcR_e, xcV_e, if_true, if_false, ite_true, ite_false, true_and, and_true, false_and, and_false, or_true, true_or, or_false, false_or, not_true_eq_false, not_false_eq_true, eq_self, ne_eq, ↓reduceIte, Nat.reduceEqDiff, Nat.reduceLT, Nat.reduceLeDiff, Nat.reduceAdd, Nat.reduceMul, Nat.reduceSub, Int32.reduceLT, Int32.reduceLE, reduceCtorEq]; exact h5, ?_, by simp (disch := omega) only [nn_add, nn_addl, l_add_nn, nn_sub, nn_subl, nn_m1, nn_mull, nn_t, nn_i, l_t, nn_lt, nn_le, nn_eq, nn_ltl, l_lt_nn, nn_lel, l_le_nn, nn_eql, l_eql, nn_nm1, xin_nn, xin_l, m1_lt, m1_le, m1_p, m1_z, dlt_T, dlt_F, dle_T, dle_F, deq_T, deq_F, sI_c, sI_n, sI_J, sI_E, sJ_c, sJ_n, sJ_I, sJ_E, sE_I, sE_J, sE_E, xcI_i, xcJ_i, xcR_i, xcV_i, xcI_e, xcJ_e, xcR_e, xcV_e, if_true, if_false, ite_true, ite_false, true_and, and_true, false_and, and_false, or_true, true_or, or_false, false_or, not_true_eq_false, not_false_eq_true, eq_self, ne_eq, ↓reduceIte, Nat.reduceEqDiff, Nat.reduceLT, Nat.reduceLeDiff, Nat.reduceAdd, Nat.reduceMul, Nat.reduceSub, Int32.reduceLT, Int32.reduceLE, reduceCtorEq]; exact h7, by simp (disch := omega) only [nn_add, nn_addl, l_add_nn, nn_sub, nn_subl, nn_m1, nn_mull, nn_t, nn_i, l_t, nn_lt, nn_le, nn_eq, nn_ltl, l_lt_nn, nn_lel, l_le_nn, nn_eql, l_eql, nn_nm1, xin_nn, xin_l, m1_lt, m1_le, m1_p, m1_z, dlt_T, dlt_F, dle_T, dle_F, deq_T, deq_F, sI_c, sI_n, sI_J, sI_E, sJ_c, sJ_n, sJ_I, sJ_E, sE_I, sE_J, sE_E, xcI_i, xcJ_i, xcR_i, xcV_i, xcI_e, xcJ_e, xcR_e, xcV_e, if_true, if_false, ite_true, ite_false, true_and, and_true, false_and, and_false, or_true, true_or, or_false, false_or, not_true_eq_false, not_false_eq_true, eq_self, ne_eq, ↓reduceIte, Nat.reduceEqDiff, Nat.reduceLT, Nat.reduceLeDiff, Nat.reduceAdd, Nat.reduceMul, Nat.reduceSub, Int32.reduceLT, Int32.reduceLE, reduceCtorEq]; exact h8, by simp (disch := omega) only [nn_add, nn_addl, l_add_nn, nn_sub, nn_subl, nn_m1, nn_mull, nn_t, nn_i, l_t, nn_lt, nn_le, nn_eq, nn_ltl, l_lt_nn, nn_lel, l_le_nn, nn_eql, l_eql, nn_nm1, xin_nn, xin_l, m1_lt, m1_le, m1_p, m1_z, dlt_T, dlt_F, dle_T, dle_F, deq_T, deq_F, sI_c, sI_n, sI_J, sI_E, sJ_c, sJ_n, sJ_I, sJ_E, sE_I, sE_J, sE_E, xcI_i, xcJ_i, xcR_i, xcV_i, xcI_e, xcJ_e, xcR_e, xcV_e, if_true, if_false, ite_true, ite_false, true_and, and_true, false_and, and_false, or_true, true_or, or_false, false_or, not_true_eq_false, not_false_eq_true, eq_self, ne_eq, ↓reduceIte, Nat.reduceEqDiff, Nat.reduceLT, Nat.reduceLeDiff, Nat.reduceAdd, Nat.reduceMul, Nat.reduceSub, Int32.reduceLT, Int32.reduceLE, reduceCtorEq]; exact h9, by simp (disch := omega) only [nn_add, nn_addl, l_add_nn, nn_sub, nn_subl, nn_m1, nn_mull, nn_t, nn_i, l_t, nn_lt, nn_le, nn_eq, nn_ltl, l_lt_nn, nn_lel, l_le_nn, nn_eql, l_eql, nn_nm1, xin_nn, xin_l, m1_lt, m1_le, m1_p, m1_z, dlt_T, dlt_F, dle_T, dle_F, deq_T, deq_F, sI_c, sI_n, sI_J, sI_E, sJ_c, sJ_n, sJ_I, sJ_E, sE_I, sE_J, sE_E, xcI_i, xcJ_i, xcR_i, xcV_i, xcI_e, xcJ_e, xcR_e, xcV_e, if_true, if_false, ite_true, ite_false, true_and, and_true, false_and, and_false, or_true, true_or, or_false, false_or, not_true_eq_false, not_false_eq_true, eq_self, ne_eq, ↓reduceIte, Nat.reduceEqDiff, Nat.reduceLT, Nat.reduceLeDiff, Nat.reduceAdd, Nat.reduceMul, Nat.reduceSub, Int32.reduceLT, Int32.reduceLE, reduceCtorEq]; exact h10⟩
  · have := a6 i hi
    unfold r_t1 at this ⊢
    simp (disch := omega) only [nn_add, nn_addl, l_add_nn, nn_sub, nn_subl, nn_m1, nn_mull, nn_t, nn_i, l_t, nn_lt, nn_le, nn_eq, nn_ltl, l_lt_nn, nn_lel, l_le_nn, nn_eql, l_eql, nn_nm1, xin_nn, xin_l, m1_lt, m1_le, m1_p, m1_z, dlt_T, dlt_F, dle_T, dle_F, deq_T, deq_F, sI_c, sI_n, sI_J, sI_E, sJ_c, sJ_n, sJ_I, sJ_E, sE_I, sE_J, sE_E, xcI_i, xcJ_i, xcR_i, xcV_i, xcI_e, xcJ_e, xcR_e, xcV_e, if_true, if_false, ite_true, ite_false, true_and, and_true, false_and, and_false, or_true, true_or, or_false, false_or, not_true_eq_false, not_false_eq_true, eq_self, ne_eq, ↓reduceIte, Nat.reduceEqDiff, Nat.reduceLT, Nat.reduceLeDiff, Nat.reduceAdd, Nat.reduceMul, Nat.reduceSub, Int32.reduceLT, Int32.reduceLE, reduceCtorEq]
    exact this
  · obtain ⟨b1, b2, b3, b4, b5⟩ := h6
    refine ⟨b1, b2, b3, fun k hk => ?_, b5⟩
    have := b4 k hk
    unfold r_kd at this ⊢
    simp (disch := omega) only [nn_add, nn_addl, l_add_nn, nn_sub, nn_subl, nn_m1, nn_mull, nn_t, nn_i, l_t, nn_lt, nn_le, nn_eq, nn_ltl, l_lt_nn, nn_lel, l_le_nn, nn_eql, l_eql, nn_nm1, xin_nn, xin_l, m1_lt, m1_le, m1_p, m1_z, dlt_T, dlt_F, dle_T, dle_F, deq_T, deq_F, sI_c, sI_n, sI_J, sI_E, sJ_c, sJ_n, sJ_I, sJ_E, sE_I, sE_J, sE_E, xcI_i, xcJ_i, xcR_i, xcV_i, xcI_e, xcJ_e, xcR_e, xcV_e, if_true, if_false, ite_true, ite_false, true_and, and_true, false_and, and_false, or_true, true_or, or_false, false_or, not_true_eq_false, not_false_eq_true, eq_self, ne_eq, ↓reduceIte, Nat.reduceEqDiff, Nat.reduceLT, Nat.reduceLeDiff, Nat.reduceAdd, Nat.reduceMul, Nat.reduceSub, Int32.reduceLT, Int32.reduceLE, reduceCtorEq]
    exact this.2
theorem p_bad (h : r_P Sc Sr m s t nk nv wd) : r_bad (sE Sc) (badR Sr s t) m s nk nv wd := by
  obtain ⟨h1, h2, h3, h4, h5, h6, h7, h8, h9, h10⟩ := h
  obtain ⟨a1, a2, a3, a4, a5, a6⟩ := h1
  refine ⟨⟨a1, a2, by unfold badR; simp (disch := omega) only [nn_add, nn_addl, l_add_nn, nn_sub, nn_subl, nn_m1, nn_mull, nn_t, nn_i, l_t, nn_lt, nn_le, nn_eq, nn_ltl, l_lt_nn, nn_lel, l_le_nn, nn_eql, l_eql, nn_nm1, xin_nn, xin_l, m1_lt, m1_le, m1_p, m1_z, dlt_T, dlt_F, dle_T, dle_F, deq_T, deq_F, sI_c, sI_n, sI_J, sI_E, sJ_c, sJ_n, sJ_I, sJ_E, sE_I, sE_J, sE_E, xcI_i, xcJ_i, xcR_i, xcV_i, xcI_e, xcJ_e, xcR_e, xcV_e, if_true, if_false, ite_true, ite_false, true_and, and_true, false_and, and_false, or_true, true_or, or_false, false_or, not_true_eq_false, not_false_eq_true, eq_self, ne_eq, ↓reduceIte, Nat.reduceEqDiff, Nat.reduceLT, Nat.reduceLeDiff, Nat.reduceAdd, Nat.reduceMul, Nat.reduceSub, Int32.reduceLT, Int32.reduceLE, reduceCtorEq]; exact a3, a4, a5, fun i hi => ?_⟩, ?_, t, h2, h3, ?_⟩
  · have := a6 i hi
    unfold r_t1 badR at *
    simp (disch := omega) only [nn_add, nn_addl, l_add_nn, nn_sub, nn_subl, nn_m1, nn_mull, nn_t, nn_i, l_t, nn_lt, nn_le, nn_eq, nn_ltl, l_lt_nn, nn_lel, l_le_nn, nn_eql, l_eql, nn_nm1, xin_nn, xin_l, m1_lt, m1_le, m1_p, m1_z, dlt_T, dlt_F, dle_T, dle_F, deq_T, deq_F, sI_c, sI_n, sI_J, sI_E, sJ_c, sJ_n, sJ_I, sJ_E, sE_I, sE_J, sE_E, xcI_i, xcJ_i, xcR_i, xcV_i, xcI_e, xcJ_e, xcR_e, xcV_e, if_true, if_false, ite_true, ite_false, true_and, and_true, false_and, and_false, or_true, true_or, or_false, false_or, not_true_eq_false, not_false_eq_true, eq_self, ne_eq, ↓reduceIte, Nat.reduceEqDiff, Nat.reduceLT, Nat.reduceLeDiff, Nat.reduceAdd, Nat.reduceMul, Nat.reduceSub, Int32.reduceLT, Int32.reduceLE, reduceCtorEq]
    exact this
  · obtain ⟨b1, b2, b3, b4, b5⟩ := h6
    refine ⟨b1, b2, b3, fun k hk => ?_, b5⟩
    have := b4 k hk
    unfold r_kd badR at *
    simp (disch := omega) only [nn_add, nn_addl, l_add_nn, nn_sub, nn_subl, nn_m1, nn_mull, nn_t, nn_i, l_t, nn_lt, nn_le, nn_eq, nn_ltl, l_lt_nn, nn_lel, l_le_nn, nn_eql, l_eql, nn_nm1, xin_nn, xin_l, m1_lt, m1_le, m1_p, m1_z, dlt_T, dlt_F, dle_T, dle_F, deq_T, deq_F, sI_c, sI_n, sI_J, sI_E, sJ_c, sJ_n, sJ_I, sJ_E, sE_I, sE_J, sE_E, xcI_i, xcJ_i, xcR_i, xcV_i, xcI_e, xcJ_e, xcR_e, xcV_e, if_true, if_false, ite_true, ite_false, true_and, and_true, false_and, and_false, or_true, true_or, or_false, false_or, not_true_eq_false, not_false_eq_true, eq_self, ne_eq, ↓reduceIte, Nat.reduceEqDiff, Nat.reduceLT, Nat.reduceLeDiff, Nat.reduceAdd, Nat.reduceMul, Nat.reduceSub, Int32.reduceLT, Int32.reduceLE, reduceCtorEq]
    exact this.2
  · obtain ⟨pl, _, e1, e2⟩ := (a6 t h2).2.2.1
    unfold badR
    simp (disch := omega) only [nn_add, nn_addl, l_add_nn, nn_sub, nn_subl, nn_m1, nn_mull, nn_t, nn_i, l_t, nn_lt, nn_le, nn_eq, nn_ltl, l_lt_nn, nn_lel, l_le_nn, nn_eql, l_eql, nn_nm1, xin_nn, xin_l, m1_lt, m1_le, m1_p, m1_z, dlt_T, dlt_F, dle_T, dle_F, deq_T, deq_F, sI_c, sI_n, sI_J, sI_E, sJ_c, sJ_n, sJ_I, sJ_E, sE_I, sE_J, sE_E, xcI_i, xcJ_i, xcR_i, xcV_i, xcI_e, xcJ_e, xcR_e, xcV_e, if_true, if_false, ite_true, ite_false, true_and, and_true, false_and, and_false, or_true, true_or, or_false, false_or, not_true_eq_false, not_false_eq_true, eq_self, ne_eq, ↓reduceIte, Nat.reduceEqDiff, Nat.reduceLT, Nat.reduceLeDiff, Nat.reduceAdd, Nat.reduceMul, Nat.reduceSub, Int32.reduceLT, Int32.reduceLE, reduceCtorEq, e1, e2]
theorem p_sort (h : r_P Sc Sr m s t nk nv wd) : f_X9_sort N Sc = some (rI (nn (s t)) Sc) := by
  obtain ⟨h1, h2, h3, _⟩ := h
  have h4 := (h1.2.2.2.2.2 t h2).1
  have := h1.1
  simp (disch := omega) only [nn_add, nn_addl, l_add_nn, nn_sub, nn_subl, nn_m1, nn_mull, nn_t, nn_i, l_t, nn_lt, nn_le, nn_eq, nn_ltl, l_lt_nn, nn_lel, l_le_nn, nn_eql, l_eql, nn_nm1, xin_nn, xin_l, m1_lt, m1_le, m1_p, m1_z, dlt_T, dlt_F, dle_T, dle_F, deq_T, deq_F, sI_c, sI_n, sI_J, sI_E, sJ_c, sJ_n, sJ_I, sJ_E, sE_I, sE_J, sE_E, xcI_i, xcJ_i, xcR_i, xcV_i, xcI_e, xcJ_e, xcR_e, xcV_e, if_true, if_false, ite_true, ite_false, true_and, and_true, false_and, and_false, or_true, true_or, or_false, false_or, not_true_eq_false, not_false_eq_true, eq_self, ne_eq, ↓reduceIte, Nat.reduceEqDiff, Nat.reduceLT, Nat.reduceLeDiff, Nat.reduceAdd, Nat.reduceMul, Nat.reduceSub, Int32.reduceLT, Int32.reduceLE, reduceCtorEq, f_X9_sort, h3, h4]
theorem r_P.lt (h : r_P Sc Sr m s t nk nv wd) (h1 : 1 ≤ s t) (h2 : s t ≤ 41) : t < m := by
  have a := h.2.1
  rcases Nat.lt_or_ge t m with b | b
  · exact b
  · have e : t = m := by omega
    subst e
    rcases h.1.2.2.2.1 with z | z | z <;> omega
theorem p_pass (h : r_P Sc Sr m s t nk nv wd) (h1 : t < m) : f_X9_pass N Sc = some (rV (sI Sc 1 7 (nn (t + 1)))) := by
  obtain ⟨⟨a1, ⟨cnt, a2, a3, a4, _⟩, _⟩, h2, h3, _⟩ := h
  simp (disch := omega) only [nn_add, nn_addl, l_add_nn, nn_sub, nn_subl, nn_m1, nn_mull, nn_t, nn_i, l_t, nn_lt, nn_le, nn_eq, nn_ltl, l_lt_nn, nn_lel, l_le_nn, nn_eql, l_eql, nn_nm1, xin_nn, xin_l, m1_lt, m1_le, m1_p, m1_z, dlt_T, dlt_F, dle_T, dle_F, deq_T, deq_F, sI_c, sI_n, sI_J, sI_E, sJ_c, sJ_n, sJ_I, sJ_E, sE_I, sE_J, sE_E, xcI_i, xcJ_i, xcR_i, xcV_i, xcI_e, xcJ_e, xcR_e, xcV_e, if_true, if_false, ite_true, ite_false, true_and, and_true, false_and, and_false, or_true, true_or, or_false, false_or, not_true_eq_false, not_false_eq_true, eq_self, ne_eq, ↓reduceIte, Nat.reduceEqDiff, Nat.reduceLT, Nat.reduceLeDiff, Nat.reduceAdd, Nat.reduceMul, Nat.reduceSub, Int32.reduceLT, Int32.reduceLE, reduceCtorEq, f_X9_pass, f_X9_pass_21, h3, a4]
theorem p_name1 (h : r_P Sc Sr m s t nk nv wd) (hs : s t = 40) : f_X9_name N Sc = some (rJ (Sc.2.1 6 t) Sc) := by
  obtain ⟨h1, h2, h3, _⟩ := h
  have h4 := (h1.2.2.2.2.2 t h2).1
  have := h1.1
  simp (disch := omega) only [nn_add, nn_addl, l_add_nn, nn_sub, nn_subl, nn_m1, nn_mull, nn_t, nn_i, l_t, nn_lt, nn_le, nn_eq, nn_ltl, l_lt_nn, nn_lel, l_le_nn, nn_eql, l_eql, nn_nm1, xin_nn, xin_l, m1_lt, m1_le, m1_p, m1_z, dlt_T, dlt_F, dle_T, dle_F, deq_T, deq_F, sI_c, sI_n, sI_J, sI_E, sJ_c, sJ_n, sJ_I, sJ_E, sE_I, sE_J, sE_E, xcI_i, xcJ_i, xcR_i, xcV_i, xcI_e, xcJ_e, xcR_e, xcV_e, if_true, if_false, ite_true, ite_false, true_and, and_true, false_and, and_false, or_true, true_or, or_false, false_or, not_true_eq_false, not_false_eq_true, eq_self, ne_eq, ↓reduceIte, Nat.reduceEqDiff, Nat.reduceLT, Nat.reduceLeDiff, Nat.reduceAdd, Nat.reduceMul, Nat.reduceSub, Int32.reduceLT, Int32.reduceLE, reduceCtorEq, f_X9_name, f_X9_name_27, h3, h4, hs]
theorem s_le (h : r_P Sc Sr m s t nk nv wd) : s t ≤ 43 := by
  rcases Nat.lt_or_ge t m with b | b
  · have := (h.1.2.2.2.2.1 t b).2; omega
  · have e : t = m := by have := h.2.1; omega
    subst e
    rcases h.1.2.2.2.1 with z | z | z <;> omega
theorem p_name0 (h : r_P Sc Sr m s t nk nv wd) (hs : ¬ s t = 40) : f_X9_name N Sc = some (rJ 0 Sc) := by
  have hl := s_le h
  obtain ⟨h1, h2, h3, _⟩ := h
  have h4 := (h1.2.2.2.2.2 t h2).1
  have := h1.1
  simp (disch := omega) only [nn_add, nn_addl, l_add_nn, nn_sub, nn_subl, nn_m1, nn_mull, nn_t, nn_i, l_t, nn_lt, nn_le, nn_eq, nn_ltl, l_lt_nn, nn_lel, l_le_nn, nn_eql, l_eql, nn_nm1, xin_nn, xin_l, m1_lt, m1_le, m1_p, m1_z, dlt_T, dlt_F, dle_T, dle_F, deq_T, deq_F, sI_c, sI_n, sI_J, sI_E, sJ_c, sJ_n, sJ_I, sJ_E, sE_I, sE_J, sE_E, xcI_i, xcJ_i, xcR_i, xcV_i, xcI_e, xcJ_e, xcR_e, xcV_e, if_true, if_false, ite_true, ite_false, true_and, and_true, false_and, and_false, or_true, true_or, or_false, false_or, not_true_eq_false, not_false_eq_true, eq_self, ne_eq, ↓reduceIte, Nat.reduceEqDiff, Nat.reduceLT, Nat.reduceLeDiff, Nat.reduceAdd, Nat.reduceMul, Nat.reduceSub, Int32.reduceLT, Int32.reduceLE, reduceCtorEq, f_X9_name, f_X9_name_27, h3, h4, hs]
theorem p_nameR (h : r_P Sc Sr m s t nk nv wd) (hs : s t = 40) : NmR (Sc.2.1 6 t) (Sr.2.1 516 t) := (h.1.2.2.2.2.2 t h.2.1).2.2.2.2.1 hs
theorem p_take1 (h : r_P Sc Sr m s t nk nv wd) {k : Nat} {x : Int32} (hx : x = nn k) (hk : 1 ≤ k) (hk2 : k ≤ 41) (hs : s t = k) : f_X9_take N x Sc = some (rV (sI Sc 1 7 (nn (t + 1)))) := by
  subst hx
  obtain ⟨h1, h2, h3, _⟩ := h
  have h4 := (h1.2.2.2.2.2 t h2).1
  have := h1.1
  simp (disch := omega) only [nn_add, nn_addl, l_add_nn, nn_sub, nn_subl, nn_m1, nn_mull, nn_t, nn_i, l_t, nn_lt, nn_le, nn_eq, nn_ltl, l_lt_nn, nn_lel, l_le_nn, nn_eql, l_eql, nn_nm1, xin_nn, xin_l, m1_lt, m1_le, m1_p, m1_z, dlt_T, dlt_F, dle_T, dle_F, deq_T, deq_F, sI_c, sI_n, sI_J, sI_E, sJ_c, sJ_n, sJ_I, sJ_E, sE_I, sE_J, sE_E, xcI_i, xcJ_i, xcR_i, xcV_i, xcI_e, xcJ_e, xcR_e, xcV_e, if_true, if_false, ite_true, ite_false, true_and, and_true, false_and, and_false, or_true, true_or, or_false, false_or, not_true_eq_false, not_false_eq_true, eq_self, ne_eq, ↓reduceIte, Nat.reduceEqDiff, Nat.reduceLT, Nat.reduceLeDiff, Nat.reduceAdd, Nat.reduceMul, Nat.reduceSub, Int32.reduceLT, Int32.reduceLE, reduceCtorEq, f_X9_take, h3, h4, hs]
theorem p_take0 (h : r_P Sc Sr m s t nk nv wd) {k : Nat} {x : Int32} (hx : x = nn k) (hk2 : k ≤ 41) (hs : ¬ s t = k) : f_X9_take N x Sc = some (rA (sE Sc)) := by
  subst hx
  have hl := s_le h
  obtain ⟨h1, h2, h3, _⟩ := h
  have h4 := (h1.2.2.2.2.2 t h2).1
  have := h1.1
  simp (disch := omega) only [nn_add, nn_addl, l_add_nn, nn_sub, nn_subl, nn_m1, nn_mull, nn_t, nn_i, l_t, nn_lt, nn_le, nn_eq, nn_ltl, l_lt_nn, nn_lel, l_le_nn, nn_eql, l_eql, nn_nm1, xin_nn, xin_l, m1_lt, m1_le, m1_p, m1_z, dlt_T, dlt_F, dle_T, dle_F, deq_T, deq_F, sI_c, sI_n, sI_J, sI_E, sJ_c, sJ_n, sJ_I, sJ_E, sE_I, sE_J, sE_E, xcI_i, xcJ_i, xcR_i, xcV_i, xcI_e, xcJ_e, xcR_e, xcV_e, if_true, if_false, ite_true, ite_false, true_and, and_true, false_and, and_false, or_true, true_or, or_false, false_or, not_true_eq_false, not_false_eq_true, eq_self, ne_eq, ↓reduceIte, Nat.reduceEqDiff, Nat.reduceLT, Nat.reduceLeDiff, Nat.reduceAdd, Nat.reduceMul, Nat.reduceSub, Int32.reduceLT, Int32.reduceLE, reduceCtorEq, f_X9_take, h3, h4]
theorem p_passed1 (h : r_P Sc Sr m s t nk nv wd) {k : Nat} {x : Int32} (hx : x = nn k) (hk2 : k ≤ 41) (hs : s t = k) : f_X9_passed N x Sc = some (rI 1 (sI Sc 1 7 (nn (t + 1)))) := by
  subst hx
  obtain ⟨h1, h2, h3, _⟩ := h
  have h4 := (h1.2.2.2.2.2 t h2).1
  have := h1.1
  simp (disch := omega) only [nn_add, nn_addl, l_add_nn, nn_sub, nn_subl, nn_m1, nn_mull, nn_t, nn_i, l_t, nn_lt, nn_le, nn_eq, nn_ltl, l_lt_nn, nn_lel, l_le_nn, nn_eql, l_eql, nn_nm1, xin_nn, xin_l, m1_lt, m1_le, m1_p, m1_z, dlt_T, dlt_F, dle_T, dle_F, deq_T, deq_F, sI_c, sI_n, sI_J, sI_E, sJ_c, sJ_n, sJ_I, sJ_E, sE_I, sE_J, sE_E, xcI_i, xcJ_i, xcR_i, xcV_i, xcI_e, xcJ_e, xcR_e, xcV_e, if_true, if_false, ite_true, ite_false, true_and, and_true, false_and, and_false, or_true, true_or, or_false, false_or, not_true_eq_false, not_false_eq_true, eq_self, ne_eq, ↓reduceIte, Nat.reduceEqDiff, Nat.reduceLT, Nat.reduceLeDiff, Nat.reduceAdd, Nat.reduceMul, Nat.reduceSub, Int32.reduceLT, Int32.reduceLE, reduceCtorEq, f_X9_passed, f_X9_passed_18, f_X9_passed_33, h3, h4, hs, xbo]
theorem p_passed0 (h : r_P Sc Sr m s t nk nv wd) {k : Nat} {x : Int32} (hx : x = nn k) (hk2 : k ≤ 41) (hs : ¬ s t = k) : f_X9_passed N x Sc = some (rI 0 (sI Sc 1 7 (nn t))) := by
  subst hx
  have hl := s_le h
  obtain ⟨h1, h2, h3, _⟩ := h
  have h4 := (h1.2.2.2.2.2 t h2).1
  have := h1.1
  simp (disch := omega) only [nn_add, nn_addl, l_add_nn, nn_sub, nn_subl, nn_m1, nn_mull, nn_t, nn_i, l_t, nn_lt, nn_le, nn_eq, nn_ltl, l_lt_nn, nn_lel, l_le_nn, nn_eql, l_eql, nn_nm1, xin_nn, xin_l, m1_lt, m1_le, m1_p, m1_z, dlt_T, dlt_F, dle_T, dle_F, deq_T, deq_F, sI_c, sI_n, sI_J, sI_E, sJ_c, sJ_n, sJ_I, sJ_E, sE_I, sE_J, sE_E, xcI_i, xcJ_i, xcR_i, xcV_i, xcI_e, xcJ_e, xcR_e, xcV_e, if_true, if_false, ite_true, ite_false, true_and, and_true, false_and, and_false, or_true, true_or, or_false, false_or, not_true_eq_false, not_false_eq_true, eq_self, ne_eq, ↓reduceIte, Nat.reduceEqDiff, Nat.reduceLT, Nat.reduceLeDiff, Nat.reduceAdd, Nat.reduceMul, Nat.reduceSub, Int32.reduceLT, Int32.reduceLE, reduceCtorEq, f_X9_passed, f_X9_passed_18, f_X9_passed_33, h3, h4, xbo, Nat.add_zero]
theorem sI_id {S : xS} {q j : Nat} {v : Int32} (h : S.1 q j = v) : sI S q j v = S := by
  unfold sI
  refine Prod.ext (funext fun a => ?_) rfl
  by_cases ha : a = q
  · subst ha
    simp only [if_true]
    refine funext fun b => ?_
    by_cases hb : b = j
    · subst hb; simp [h]
    · simp [hb]
  · simp [ha]
theorem p_wrong (h : r_P Sc Sr m s t nk nv wd) : f_X12_wrong N Sr = some (rI 0 (badR Sr s t)) := by
  have hl := s_le h
  obtain ⟨h1, h2, h3, h4, h5, _⟩ := h
  obtain ⟨b1, b2, _⟩ := h1.2.2.2.2.2 t h2
  have := h1.1
  unfold badR
  by_cases hs : s t = 43
  · simp (disch := omega) only [nn_add, nn_addl, l_add_nn, nn_sub, nn_subl, nn_m1, nn_mull, nn_t, nn_i, l_t, nn_lt, nn_le, nn_eq, nn_ltl, l_lt_nn, nn_lel, l_le_nn, nn_eql, l_eql, nn_nm1, xin_nn, xin_l, m1_lt, m1_le, m1_p, m1_z, dlt_T, dlt_F, dle_T, dle_F, deq_T, deq_F, sI_c, sI_n, sI_J, sI_E, sJ_c, sJ_n, sJ_I, sJ_E, sE_I, sE_J, sE_E, xcI_i, xcJ_i, xcR_i, xcV_i, xcI_e, xcJ_e, xcR_e, xcV_e, if_true, if_false, ite_true, ite_false, true_and, and_true, false_and, and_false, or_true, true_or, or_false, false_or, not_true_eq_false, not_false_eq_true, eq_self, ne_eq, ↓reduceIte, Nat.reduceEqDiff, Nat.reduceLT, Nat.reduceLeDiff, Nat.reduceAdd, Nat.reduceMul, Nat.reduceSub, Int32.reduceLT, Int32.reduceLE, reduceCtorEq, f_X12_wrong, f_X12_wrong_40, f_X12_wrong_37, h4, h5, b2, hs, tkr]
  · have : ¬ tkr (s t) = 7 := by
      unfold tkr
      split; · decide
      split; · decide
      split; · decide
      split; · decide
      split; · decide
      split; · decide
      omega
    have h9 : tkr (s t) < 100 := by
      unfold tkr
      repeat' split
      all_goals decide
    simp (disch := omega) only [nn_add, nn_addl, l_add_nn, nn_sub, nn_subl, nn_m1, nn_mull, nn_t, nn_i, l_t, nn_lt, nn_le, nn_eq, nn_ltl, l_lt_nn, nn_lel, l_le_nn, nn_eql, l_eql, nn_nm1, xin_nn, xin_l, m1_lt, m1_le, m1_p, m1_z, dlt_T, dlt_F, dle_T, dle_F, deq_T, deq_F, sI_c, sI_n, sI_J, sI_E, sJ_c, sJ_n, sJ_I, sJ_E, sE_I, sE_J, sE_E, xcI_i, xcJ_i, xcR_i, xcV_i, xcI_e, xcJ_e, xcR_e, xcV_e, if_true, if_false, ite_true, ite_false, true_and, and_true, false_and, and_false, or_true, true_or, or_false, false_or, not_true_eq_false, not_false_eq_true, eq_self, ne_eq, ↓reduceIte, Nat.reduceEqDiff, Nat.reduceLT, Nat.reduceLeDiff, Nat.reduceAdd, Nat.reduceMul, Nat.reduceSub, Int32.reduceLT, Int32.reduceLE, reduceCtorEq, f_X12_wrong, f_X12_wrong_40, f_X12_wrong_37, h4, h5, b2, hs]
theorem tkr_lt (k : Nat) : tkr k < 100 := by
  unfold tkr
  repeat' split
  all_goals decide
theorem sg_lt (k : Nat) (h1 : 21 ≤ k) (h2 : k ≤ 39) : sg k < 400 := by
  have : ∀ j, j < 19 → sg (21 + j) < 400 := by decide
  have := this (k - 21) (by omega)
  rwa [show 21 + (k - 21) = k by omega] at this
theorem sg_inj (k k2 : Nat) (h1 : 21 ≤ k) (h2 : k ≤ 39) (h3 : 21 ≤ k2) (h4 : k2 ≤ 39) (h : sg k = sg k2) : k = k2 := by
  have : ∀ j, j < 19 → ∀ i, i < 19 → sg (21 + j) = sg (21 + i) → j = i := by decide
  have := this (k - 21) (by omega) (k2 - 21) (by omega) (by rw [show 21 + (k - 21) = k by omega, show 21 + (k2 - 21) = k2 by omega]; exact h)
  omega
theorem tkr_4 {k : Nat} (h : k ≤ 43) : tkr k = 4 ↔ 21 ≤ k ∧ k ≤ 39 := by
  have : ∀ j, j < 44 → (tkr j = 4 ↔ 21 ≤ j ∧ j ≤ 39) := by decide
  exact this k (by omega)
theorem tkr_3 {k : Nat} (h : k ≤ 43) : tkr k = 3 ↔ 1 ≤ k ∧ k ≤ 20 := by
  have : ∀ j, j < 44 → (tkr j = 3 ↔ 1 ≤ j ∧ j ≤ 20) := by decide
  exact this k (by omega)
theorem tkr_1 {k : Nat} (h : k ≤ 43) : tkr k = 1 ↔ k = 40 := by
  have : ∀ j, j < 44 → (tkr j = 1 ↔ j = 40) := by decide
  exact this k (by omega)
theorem tkr_2 {k : Nat} (h : k ≤ 43) : tkr k = 2 ↔ k = 41 := by
  have : ∀ j, j < 44 → (tkr j = 2 ↔ j = 41) := by decide
  exact this k (by omega)
theorem tkr_0 {k : Nat} (h : k ≤ 43) : tkr k = 0 ↔ k = 0 := by
  have : ∀ j, j < 44 → (tkr j = 0 ↔ j = 0) := by decide
  exact this k (by omega)
theorem p_isSign1 (h : r_P Sc Sr m s t nk nv wd) (k : Nat) {c : Int32} (hc : c = nn (sg k)) (hk : 21 ≤ k) (hk2 : k ≤ 39) (hs : s t = k) : f_X12_isSign N c Sr = some (rI 1 Sr) := by
  subst hc
  obtain ⟨h1, h2, h3, h4, h5, _⟩ := h
  obtain ⟨b1, b2, b3, b4, _⟩ := h1.2.2.2.2.2 t h2
  have := h1.1
  have e1 : tkr k = 4 := (tkr_4 (by omega)).mpr ⟨hk, hk2⟩
  have e2 := sg_lt k hk hk2
  have e3 := b4 (by omega) (by omega)
  rw [hs] at b2 e3
  rw [e1] at b2
  rw [show tki k = sg k from if_neg (by omega)] at e3
  simp (disch := omega) only [nn_add, nn_addl, l_add_nn, nn_sub, nn_subl, nn_m1, nn_mull, nn_t, nn_i, l_t, nn_lt, nn_le, nn_eq, nn_ltl, l_lt_nn, nn_lel, l_le_nn, nn_eql, l_eql, nn_nm1, xin_nn, xin_l, m1_lt, m1_le, m1_p, m1_z, dlt_T, dlt_F, dle_T, dle_F, deq_T, deq_F, sI_c, sI_n, sI_J, sI_E, sJ_c, sJ_n, sJ_I, sJ_E, sE_I, sE_J, sE_E, xcI_i, xcJ_i, xcR_i, xcV_i, xcI_e, xcJ_e, xcR_e, xcV_e, if_true, if_false, ite_true, ite_false, true_and, and_true, false_and, and_false, or_true, true_or, or_false, false_or, not_true_eq_false, not_false_eq_true, eq_self, ne_eq, ↓reduceIte, Nat.reduceEqDiff, Nat.reduceLT, Nat.reduceLeDiff, Nat.reduceAdd, Nat.reduceMul, Nat.reduceSub, Int32.reduceLT, Int32.reduceLE, reduceCtorEq, f_X12_isSign, f_X12_isSign_33, h4, b2, e3, lg_cmp_eq, nn_ll, xbo]
theorem p_isSign0 (h : r_P Sc Sr m s t nk nv wd) (k : Nat) {c : Int32} (hc : c = nn (sg k)) (hk : 21 ≤ k) (hk2 : k ≤ 39) (hs : ¬ s t = k) : f_X12_isSign N c Sr = some (rI 0 Sr) := by
  subst hc
  have hl := s_le h
  obtain ⟨h1, h2, h3, h4, h5, _⟩ := h
  obtain ⟨b1, b2, b3, b4, _⟩ := h1.2.2.2.2.2 t h2
  have := h1.1
  have h9 := tkr_lt (s t)
  have e2 := sg_lt k hk hk2
  by_cases hq : 21 ≤ s t ∧ s t ≤ 39
  · have e1 : tkr (s t) = 4 := (tkr_4 (by omega)).mpr hq
    have e3 := b4 (by omega) (by omega)
    rw [show tki (s t) = sg (s t) from if_neg (by omega)] at e3
    have e4 := sg_lt (s t) hq.1 hq.2
    have e5 : ¬ sg (s t) = sg k := fun z => hs (sg_inj _ _ hq.1 hq.2 hk hk2 z)
    simp (disch := omega) only [nn_add, nn_addl, l_add_nn, nn_sub, nn_subl, nn_m1, nn_mull, nn_t, nn_i, l_t, nn_lt, nn_le, nn_eq, nn_ltl, l_lt_nn, nn_lel, l_le_nn, nn_eql, l_eql, nn_nm1, xin_nn, xin_l, m1_lt, m1_le, m1_p, m1_z, dlt_T, dlt_F, dle_T, dle_F, deq_T, deq_F, sI_c, sI_n, sI_J, sI_E, sJ_c, sJ_n, sJ_I, sJ_E, sE_I, sE_J, sE_E, xcI_i, xcJ_i, xcR_i, xcV_i, xcI_e, xcJ_e, xcR_e, xcV_e, if_true, if_false, ite_true, ite_false, true_and, and_true, false_and, and_false, or_true, true_or, or_false, false_or, not_true_eq_false, not_false_eq_true, eq_self, ne_eq, ↓reduceIte, Nat.reduceEqDiff, Nat.reduceLT, Nat.reduceLeDiff, Nat.reduceAdd, Nat.reduceMul, Nat.reduceSub, Int32.reduceLT, Int32.reduceLE, reduceCtorEq, f_X12_isSign, f_X12_isSign_33, f_X12_isSign_32, h4, b2, e1, e3, lg_cmp_eq, nn_ll, xbo, ll_eq]
  · have e1 : ¬ tkr (s t) = 4 := fun z => hq ((tkr_4 (by omega)).mp z)
    simp (disch := omega) only [nn_add, nn_addl, l_add_nn, nn_sub, nn_subl, nn_m1, nn_mull, nn_t, nn_i, l_t, nn_lt, nn_le, nn_eq, nn_ltl, l_lt_nn, nn_lel, l_le_nn, nn_eql, l_eql, nn_nm1, xin_nn, xin_l, m1_lt, m1_le, m1_p, m1_z, dlt_T, dlt_F, dle_T, dle_F, deq_T, deq_F, sI_c, sI_n, sI_J, sI_E, sJ_c, sJ_n, sJ_I, sJ_E, sE_I, sE_J, sE_E, xcI_i, xcJ_i, xcR_i, xcV_i, xcI_e, xcJ_e, xcR_e, xcV_e, if_true, if_false, ite_true, ite_false, true_and, and_true, false_and, and_false, or_true, true_or, or_false, false_or, not_true_eq_false, not_false_eq_true, eq_self, ne_eq, ↓reduceIte, Nat.reduceEqDiff, Nat.reduceLT, Nat.reduceLeDiff, Nat.reduceAdd, Nat.reduceMul, Nat.reduceSub, Int32.reduceLT, Int32.reduceLE, reduceCtorEq, f_X12_isSign, f_X12_isSign_33, f_X12_isSign_32, h4, b2, xbo]
theorem p_isWord1 (h : r_P Sc Sr m s t nk nv wd) (k : Nat) {c : Int32} (hc : c = nn (k - 1)) (hk : 1 ≤ k) (hk2 : k ≤ 20) (hs : s t = k) : f_X12_isWord N c Sr = some (rI 1 Sr) := by
  subst hc
  obtain ⟨h1, h2, h3, h4, h5, _⟩ := h
  obtain ⟨b1, b2, b3, b4, _⟩ := h1.2.2.2.2.2 t h2
  have := h1.1
  have e1 : tkr k = 3 := (tkr_3 (by omega)).mpr ⟨hk, hk2⟩
  have e3 := b4 (by omega) (by omega)
  rw [hs] at b2 e3
  rw [e1] at b2
  rw [show tki k = k - 1 from if_pos (by omega)] at e3
  simp (disch := omega) only [nn_add, nn_addl, l_add_nn, nn_sub, nn_subl, nn_m1, nn_mull, nn_t, nn_i, l_t, nn_lt, nn_le, nn_eq, nn_ltl, l_lt_nn, nn_lel, l_le_nn, nn_eql, l_eql, nn_nm1, xin_nn, xin_l, m1_lt, m1_le, m1_p, m1_z, dlt_T, dlt_F, dle_T, dle_F, deq_T, deq_F, sI_c, sI_n, sI_J, sI_E, sJ_c, sJ_n, sJ_I, sJ_E, sE_I, sE_J, sE_E, xcI_i, xcJ_i, xcR_i, xcV_i, xcI_e, xcJ_e, xcR_e, xcV_e, if_true, if_false, ite_true, ite_false, true_and, and_true, false_and, and_false, or_true, true_or, or_false, false_or, not_true_eq_false, not_false_eq_true, eq_self, ne_eq, ↓reduceIte, Nat.reduceEqDiff, Nat.reduceLT, Nat.reduceLeDiff, Nat.reduceAdd, Nat.reduceMul, Nat.reduceSub, Int32.reduceLT, Int32.reduceLE, reduceCtorEq, f_X12_isWord, f_X12_isWord_33, h4, b2, e3, lg_cmp_eq, nn_ll, xbo]
theorem p_isWord0 (h : r_P Sc Sr m s t nk nv wd) (k : Nat) {c : Int32} (hc : c = nn (k - 1)) (hk : 1 ≤ k) (hk2 : k ≤ 20) (hs : ¬ s t = k) : f_X12_isWord N c Sr = some (rI 0 Sr) := by
  subst hc
  have hl := s_le h
  obtain ⟨h1, h2, h3, h4, h5, _⟩ := h
  obtain ⟨b1, b2, b3, b4, _⟩ := h1.2.2.2.2.2 t h2
  have := h1.1
  have h9 := tkr_lt (s t)
  by_cases hq : 1 ≤ s t ∧ s t ≤ 20
  · have e1 : tkr (s t) = 3 := (tkr_3 (by omega)).mpr hq
    have e3 := b4 (by omega) (by omega)
    rw [show tki (s t) = s t - 1 from if_pos (by omega)] at e3
    simp (disch := omega) only [nn_add, nn_addl, l_add_nn, nn_sub, nn_subl, nn_m1, nn_mull, nn_t, nn_i, l_t, nn_lt, nn_le, nn_eq, nn_ltl, l_lt_nn, nn_lel, l_le_nn, nn_eql, l_eql, nn_nm1, xin_nn, xin_l, m1_lt, m1_le, m1_p, m1_z, dlt_T, dlt_F, dle_T, dle_F, deq_T, deq_F, sI_c, sI_n, sI_J, sI_E, sJ_c, sJ_n, sJ_I, sJ_E, sE_I, sE_J, sE_E, xcI_i, xcJ_i, xcR_i, xcV_i, xcI_e, xcJ_e, xcR_e, xcV_e, if_true, if_false, ite_true, ite_false, true_and, and_true, false_and, and_false, or_true, true_or, or_false, false_or, not_true_eq_false, not_false_eq_true, eq_self, ne_eq, ↓reduceIte, Nat.reduceEqDiff, Nat.reduceLT, Nat.reduceLeDiff, Nat.reduceAdd, Nat.reduceMul, Nat.reduceSub, Int32.reduceLT, Int32.reduceLE, reduceCtorEq, f_X12_isWord, f_X12_isWord_33, f_X12_isWord_32, h4, b2, e1, e3, lg_cmp_eq, nn_ll, xbo, ll_eq]
  · have e1 : ¬ tkr (s t) = 3 := fun z => hq ((tkr_3 (by omega)).mp z)
    simp (disch := omega) only [nn_add, nn_addl, l_add_nn, nn_sub, nn_subl, nn_m1, nn_mull, nn_t, nn_i, l_t, nn_lt, nn_le, nn_eq, nn_ltl, l_lt_nn, nn_lel, l_le_nn, nn_eql, l_eql, nn_nm1, xin_nn, xin_l, m1_lt, m1_le, m1_p, m1_z, dlt_T, dlt_F, dle_T, dle_F, deq_T, deq_F, sI_c, sI_n, sI_J, sI_E, sJ_c, sJ_n, sJ_I, sJ_E, sE_I, sE_J, sE_E, xcI_i, xcJ_i, xcR_i, xcV_i, xcI_e, xcJ_e, xcR_e, xcV_e, if_true, if_false, ite_true, ite_false, true_and, and_true, false_and, and_false, or_true, true_or, or_false, false_or, not_true_eq_false, not_false_eq_true, eq_self, ne_eq, ↓reduceIte, Nat.reduceEqDiff, Nat.reduceLT, Nat.reduceLeDiff, Nat.reduceAdd, Nat.reduceMul, Nat.reduceSub, Int32.reduceLT, Int32.reduceLE, reduceCtorEq, f_X12_isWord, f_X12_isWord_33, f_X12_isWord_32, h4, b2, xbo]
theorem p_sign1 (h : r_P Sc Sr m s t nk nv wd) (k : Nat) {c : Int32} (hc : c = nn (sg k)) (hk : 21 ≤ k) (hk2 : k ≤ 39) (hs : s t = k) : f_X12_sign N c Sr = some (rI 1 (sI Sr 503 20 (nn (t + 1)))) := by
  have h4 := h.2.2.2.1
  simp (disch := omega) only [nn_add, nn_addl, l_add_nn, nn_sub, nn_subl, nn_m1, nn_mull, nn_t, nn_i, l_t, nn_lt, nn_le, nn_eq, nn_ltl, l_lt_nn, nn_lel, l_le_nn, nn_eql, l_eql, nn_nm1, xin_nn, xin_l, m1_lt, m1_le, m1_p, m1_z, dlt_T, dlt_F, dle_T, dle_F, deq_T, deq_F, sI_c, sI_n, sI_J, sI_E, sJ_c, sJ_n, sJ_I, sJ_E, sE_I, sE_J, sE_E, xcI_i, xcJ_i, xcR_i, xcV_i, xcI_e, xcJ_e, xcR_e, xcV_e, if_true, if_false, ite_true, ite_false, true_and, and_true, false_and, and_false, or_true, true_or, or_false, false_or, not_true_eq_false, not_false_eq_true, eq_self, ne_eq, ↓reduceIte, Nat.reduceEqDiff, Nat.reduceLT, Nat.reduceLeDiff, Nat.reduceAdd, Nat.reduceMul, Nat.reduceSub, Int32.reduceLT, Int32.reduceLE, reduceCtorEq, f_X12_sign, p_isSign1 h k hc hk hk2 hs, h4]
theorem p_sign0 (h : r_P Sc Sr m s t nk nv wd) (k : Nat) {c : Int32} (hc : c = nn (sg k)) (hk : 21 ≤ k) (hk2 : k ≤ 39) (hs : ¬ s t = k) : f_X12_sign N c Sr = some (rI 0 (badR Sr s t)) := by
  simp (disch := omega) only [nn_add, nn_addl, l_add_nn, nn_sub, nn_subl, nn_m1, nn_mull, nn_t, nn_i, l_t, nn_lt, nn_le, nn_eq, nn_ltl, l_lt_nn, nn_lel, l_le_nn, nn_eql, l_eql, nn_nm1, xin_nn, xin_l, m1_lt, m1_le, m1_p, m1_z, dlt_T, dlt_F, dle_T, dle_F, deq_T, deq_F, sI_c, sI_n, sI_J, sI_E, sJ_c, sJ_n, sJ_I, sJ_E, sE_I, sE_J, sE_E, xcI_i, xcJ_i, xcR_i, xcV_i, xcI_e, xcJ_e, xcR_e, xcV_e, if_true, if_false, ite_true, ite_false, true_and, and_true, false_and, and_false, or_true, true_or, or_false, false_or, not_true_eq_false, not_false_eq_true, eq_self, ne_eq, ↓reduceIte, Nat.reduceEqDiff, Nat.reduceLT, Nat.reduceLeDiff, Nat.reduceAdd, Nat.reduceMul, Nat.reduceSub, Int32.reduceLT, Int32.reduceLE, reduceCtorEq, f_X12_sign, p_isSign0 h k hc hk hk2 hs, p_wrong h, xbo]
theorem p_keyword1 (h : r_P Sc Sr m s t nk nv wd) (k : Nat) {c : Int32} (hc : c = nn (k - 1)) (hk : 1 ≤ k) (hk2 : k ≤ 20) (hs : s t = k) : f_X12_keyword N c Sr = some (rI 1 (sI Sr 503 20 (nn (t + 1)))) := by
  have h4 := h.2.2.2.1
  simp (disch := omega) only [nn_add, nn_addl, l_add_nn, nn_sub, nn_subl, nn_m1, nn_mull, nn_t, nn_i, l_t, nn_lt, nn_le, nn_eq, nn_ltl, l_lt_nn, nn_lel, l_le_nn, nn_eql, l_eql, nn_nm1, xin_nn, xin_l, m1_lt, m1_le, m1_p, m1_z, dlt_T, dlt_F, dle_T, dle_F, deq_T, deq_F, sI_c, sI_n, sI_J, sI_E, sJ_c, sJ_n, sJ_I, sJ_E, sE_I, sE_J, sE_E, xcI_i, xcJ_i, xcR_i, xcV_i, xcI_e, xcJ_e, xcR_e, xcV_e, if_true, if_false, ite_true, ite_false, true_and, and_true, false_and, and_false, or_true, true_or, or_false, false_or, not_true_eq_false, not_false_eq_true, eq_self, ne_eq, ↓reduceIte, Nat.reduceEqDiff, Nat.reduceLT, Nat.reduceLeDiff, Nat.reduceAdd, Nat.reduceMul, Nat.reduceSub, Int32.reduceLT, Int32.reduceLE, reduceCtorEq, f_X12_keyword, p_isWord1 h k hc hk hk2 hs, h4]
theorem p_keyword0 (h : r_P Sc Sr m s t nk nv wd) (k : Nat) {c : Int32} (hc : c = nn (k - 1)) (hk : 1 ≤ k) (hk2 : k ≤ 20) (hs : ¬ s t = k) : f_X12_keyword N c Sr = some (rI 0 (badR Sr s t)) := by
  simp (disch := omega) only [nn_add, nn_addl, l_add_nn, nn_sub, nn_subl, nn_m1, nn_mull, nn_t, nn_i, l_t, nn_lt, nn_le, nn_eq, nn_ltl, l_lt_nn, nn_lel, l_le_nn, nn_eql, l_eql, nn_nm1, xin_nn, xin_l, m1_lt, m1_le, m1_p, m1_z, dlt_T, dlt_F, dle_T, dle_F, deq_T, deq_F, sI_c, sI_n, sI_J, sI_E, sJ_c, sJ_n, sJ_I, sJ_E, sE_I, sE_J, sE_E, xcI_i, xcJ_i, xcR_i, xcV_i, xcI_e, xcJ_e, xcR_e, xcV_e, if_true, if_false, ite_true, ite_false, true_and, and_true, false_and, and_false, or_true, true_or, or_false, false_or, not_true_eq_false, not_false_eq_true, eq_self, ne_eq, ↓reduceIte, Nat.reduceEqDiff, Nat.reduceLT, Nat.reduceLeDiff, Nat.reduceAdd, Nat.reduceMul, Nat.reduceSub, Int32.reduceLT, Int32.reduceLE, reduceCtorEq, f_X12_keyword, p_isWord0 h k hc hk hk2 hs, p_wrong h, xbo]
theorem p_tok (h : r_P Sc Sr m s t nk nv wd) : Sr.1 514 t = nn (tkr (s t)) := (h.1.2.2.2.2.2 t h.2.1).2.1
/-- a kind's name -/
theorem p_takeKind (hN : 100 < N) (h : r_P Sc Sr m s t nk nv wd) :
    (∃ k, k < nk ∧ s t = 40 ∧ t < m ∧ f_X7_takeKind N Sc = some (rI (nn (k + 1)) (sI Sc 1 7 (nn (t + 1)))) ∧ f_X12_takeKind N Sr = some (rI (nn k) (sI Sr 503 20 (nn (t + 1))))) ∨ (f_X7_takeKind N Sc = some (rA (sE Sc)) ∧ f_X12_takeKind N Sr = some (rI (-1) (badR Sr s t))) := by
  have hl := s_le h
  have ⟨h1, h2, h3, h4, h5, h6, h7, h8, h9, h10⟩ := h
  have hm := h1.1
  have b2 := p_tok h
  have b9 := tkr_lt (s t)
  have n7 := h6.1
  by_cases hs : s t = 40
  · have ht := h.lt (by omega) (by omega)
    have e1 : tkr (s t) = 1 := (tkr_1 hl).mpr hs
    rcases p_kind (N := N) hN h6.nm h7 h8 (p_nameR h hs) with ⟨k, hk, f1, f2⟩ | ⟨f1, f2⟩
    · refine Or.inl ⟨k, hk, hs, ht, ?_, ?_⟩
      · simp (disch := omega) only [nn_add, nn_addl, l_add_nn, nn_sub, nn_subl, nn_m1, nn_mull, nn_t, nn_i, l_t, nn_lt, nn_le, nn_eq, nn_ltl, l_lt_nn, nn_lel, l_le_nn, nn_eql, l_eql, nn_nm1, xin_nn, xin_l, m1_lt, m1_le, m1_p, m1_z, dlt_T, dlt_F, dle_T, dle_F, deq_T, deq_F, sI_c, sI_n, sI_J, sI_E, sJ_c, sJ_n, sJ_I, sJ_E, sE_I, sE_J, sE_E, xcI_i, xcJ_i, xcR_i, xcV_i, xcI_e, xcJ_e, xcR_e, xcV_e, if_true, if_false, ite_true, ite_false, true_and, and_true, false_and, and_false, or_true, true_or, or_false, false_or, not_true_eq_false, not_false_eq_true, eq_self, ne_eq, ↓reduceIte, Nat.reduceEqDiff, Nat.reduceLT, Nat.reduceLeDiff, Nat.reduceAdd, Nat.reduceMul, Nat.reduceSub, Int32.reduceLT, Int32.reduceLE, reduceCtorEq, f_X7_takeKind, p_name1 h hs, f1, p_pass h ht]
      · simp (disch := omega) only [nn_add, nn_addl, l_add_nn, nn_sub, nn_subl, nn_m1, nn_mull, nn_t, nn_i, l_t, nn_lt, nn_le, nn_eq, nn_ltl, l_lt_nn, nn_lel, l_le_nn, nn_eql, l_eql, nn_nm1, xin_nn, xin_l, m1_lt, m1_le, m1_p, m1_z, dlt_T, dlt_F, dle_T, dle_F, deq_T, deq_F, sI_c, sI_n, sI_J, sI_E, sJ_c, sJ_n, sJ_I, sJ_E, sE_I, sE_J, sE_E, xcI_i, xcJ_i, xcR_i, xcV_i, xcI_e, xcJ_e, xcR_e, xcV_e, if_true, if_false, ite_true, ite_false, true_and, and_true, false_and, and_false, or_true, true_or, or_false, false_or, not_true_eq_false, not_false_eq_true, eq_self, ne_eq, ↓reduceIte, Nat.reduceEqDiff, Nat.reduceLT, Nat.reduceLeDiff, Nat.reduceAdd, Nat.reduceMul, Nat.reduceSub, Int32.reduceLT, Int32.reduceLE, reduceCtorEq, f_X12_takeKind, f_X12_takeKind_30, f_X12_takeKind_53, h4, b2, e1, f2]
    · refine Or.inr ⟨?_, ?_⟩
      · simp (disch := omega) only [nn_add, nn_addl, l_add_nn, nn_sub, nn_subl, nn_m1, nn_mull, nn_t, nn_i, l_t, nn_lt, nn_le, nn_eq, nn_ltl, l_lt_nn, nn_lel, l_le_nn, nn_eql, l_eql, nn_nm1, xin_nn, xin_l, m1_lt, m1_le, m1_p, m1_z, dlt_T, dlt_F, dle_T, dle_F, deq_T, deq_F, sI_c, sI_n, sI_J, sI_E, sJ_c, sJ_n, sJ_I, sJ_E, sE_I, sE_J, sE_E, xcI_i, xcJ_i, xcR_i, xcV_i, xcI_e, xcJ_e, xcR_e, xcV_e, if_true, if_false, ite_true, ite_false, true_and, and_true, false_and, and_false, or_true, true_or, or_false, false_or, not_true_eq_false, not_false_eq_true, eq_self, ne_eq, ↓reduceIte, Nat.reduceEqDiff, Nat.reduceLT, Nat.reduceLeDiff, Nat.reduceAdd, Nat.reduceMul, Nat.reduceSub, Int32.reduceLT, Int32.reduceLE, reduceCtorEq, f_X7_takeKind, p_name1 h hs, f1]
      · simp (disch := omega) only [nn_add, nn_addl, l_add_nn, nn_sub, nn_subl, nn_m1, nn_mull, nn_t, nn_i, l_t, nn_lt, nn_le, nn_eq, nn_ltl, l_lt_nn, nn_lel, l_le_nn, nn_eql, l_eql, nn_nm1, xin_nn, xin_l, m1_lt, m1_le, m1_p, m1_z, dlt_T, dlt_F, dle_T, dle_F, deq_T, deq_F, sI_c, sI_n, sI_J, sI_E, sJ_c, sJ_n, sJ_I, sJ_E, sE_I, sE_J, sE_E, xcI_i, xcJ_i, xcR_i, xcV_i, xcI_e, xcJ_e, xcR_e, xcV_e, if_true, if_false, ite_true, ite_false, true_and, and_true, false_and, and_false, or_true, true_or, or_false, false_or, not_true_eq_false, not_false_eq_true, eq_self, ne_eq, ↓reduceIte, Nat.reduceEqDiff, Nat.reduceLT, Nat.reduceLeDiff, Nat.reduceAdd, Nat.reduceMul, Nat.reduceSub, Int32.reduceLT, Int32.reduceLE, reduceCtorEq, f_X12_takeKind, f_X12_takeKind_30, f_X12_takeKind_53, h4, b2, e1, f2, p_wrong h]
  · have e1 : ¬ tkr (s t) = 1 := fun z => hs ((tkr_1 hl).mp z)
    refine Or.inr ⟨?_, ?_⟩
    · simp (disch := omega) only [nn_add, nn_addl, l_add_nn, nn_sub, nn_subl, nn_m1, nn_mull, nn_t, nn_i, l_t, nn_lt, nn_le, nn_eq, nn_ltl, l_lt_nn, nn_lel, l_le_nn, nn_eql, l_eql, nn_nm1, xin_nn, xin_l, m1_lt, m1_le, m1_p, m1_z, dlt_T, dlt_F, dle_T, dle_F, deq_T, deq_F, sI_c, sI_n, sI_J, sI_E, sJ_c, sJ_n, sJ_I, sJ_E, sE_I, sE_J, sE_E, xcI_i, xcJ_i, xcR_i, xcV_i, xcI_e, xcJ_e, xcR_e, xcV_e, if_true, if_false, ite_true, ite_false, true_and, and_true, false_and, and_false, or_true, true_or, or_false, false_or, not_true_eq_false, not_false_eq_true, eq_self, ne_eq, ↓reduceIte, Nat.reduceEqDiff, Nat.reduceLT, Nat.reduceLeDiff, Nat.reduceAdd, Nat.reduceMul, Nat.reduceSub, Int32.reduceLT, Int32.reduceLE, reduceCtorEq, f_X7_takeKind, p_name0 h hs, p_kind0 hN h6.nm h7]
    · simp (disch := omega) only [nn_add, nn_addl, l_add_nn, nn_sub, nn_subl, nn_m1, nn_mull, nn_t, nn_i, l_t, nn_lt, nn_le, nn_eq, nn_ltl, l_lt_nn, nn_lel, l_le_nn, nn_eql, l_eql, nn_nm1, xin_nn, xin_l, m1_lt, m1_le, m1_p, m1_z, dlt_T, dlt_F, dle_T, dle_F, deq_T, deq_F, sI_c, sI_n, sI_J, sI_E, sJ_c, sJ_n, sJ_I, sJ_E, sE_I, sE_J, sE_E, xcI_i, xcJ_i, xcR_i, xcV_i, xcI_e, xcJ_e, xcR_e, xcV_e, if_true, if_false, ite_true, ite_false, true_and, and_true, false_and, and_false, or_true, true_or, or_false, false_or, not_true_eq_false, not_false_eq_true, eq_self, ne_eq, ↓reduceIte, Nat.reduceEqDiff, Nat.reduceLT, Nat.reduceLeDiff, Nat.reduceAdd, Nat.reduceMul, Nat.reduceSub, Int32.reduceLT, Int32.reduceLE, reduceCtorEq, f_X12_takeKind, f_X12_takeKind_30, f_X12_takeKind_53, h4, b2, p_wrong h]
theorem p_takeField (hN : 100 < N) (h : r_P Sc Sr m s t nk nv wd) {k : Nat} (hk : k < nk) :
    (∃ f, f < wd k ∧ f < 6 ∧ s t = 40 ∧ t < m ∧ f_X7_takeField N (nn (k + 1)) Sc = some (rI (nn f) (sI Sc 1 7 (nn (t + 1)))) ∧ f_X12_takeField N (nn k) Sr = some (rI (nn f) (sI Sr 503 20 (nn (t + 1))))) ∨ (f_X7_takeField N (nn (k + 1)) Sc = some (rA (sE Sc)) ∧ f_X12_takeField N (nn k) Sr = some (rI (-1) (badR Sr s t))) := by
  have hl := s_le h
  have ⟨h1, h2, h3, h4, h5, h6, h7, h8, h9, h10⟩ := h
  have hm := h1.1
  have b2 := p_tok h
  have b9 := tkr_lt (s t)
  have n7 := h6.1
  have hkd := h6.2.2.2.1 k hk
  have hw := hkd.1
  by_cases hs : s t = 40
  · have ht := h.lt (by omega) (by omega)
    have e1 : tkr (s t) = 1 := (tkr_1 hl).mpr hs
    rcases p_field (N := N) hN (by omega) hkd (p_nameR h hs) with ⟨f, hf, f1, f2⟩ | ⟨f1, f2⟩
    · refine Or.inl ⟨f, hf, by omega, hs, ht, ?_, ?_⟩
      · simp (disch := omega) only [nn_add, nn_addl, l_add_nn, nn_sub, nn_subl, nn_m1, nn_mull, nn_t, nn_i, l_t, nn_lt, nn_le, nn_eq, nn_ltl, l_lt_nn, nn_lel, l_le_nn, nn_eql, l_eql, nn_nm1, xin_nn, xin_l, m1_lt, m1_le, m1_p, m1_z, dlt_T, dlt_F, dle_T, dle_F, deq_T, deq_F, sI_c, sI_n, sI_J, sI_E, sJ_c, sJ_n, sJ_I, sJ_E, sE_I, sE_J, sE_E, xcI_i, xcJ_i, xcR_i, xcV_i, xcI_e, xcJ_e, xcR_e, xcV_e, if_true, if_false, ite_true, ite_false, true_and, and_true, false_and, and_false, or_true, true_or, or_false, false_or, not_true_eq_false, not_false_eq_true, eq_self, ne_eq, ↓reduceIte, Nat.reduceEqDiff, Nat.reduceLT, Nat.reduceLeDiff, Nat.reduceAdd, Nat.reduceMul, Nat.reduceSub, Int32.reduceLT, Int32.reduceLE, reduceCtorEq, f_X7_takeField, p_name1 h hs, f1, p_pass h ht]
      · simp (disch := omega) only [nn_add, nn_addl, l_add_nn, nn_sub, nn_subl, nn_m1, nn_mull, nn_t, nn_i, l_t, nn_lt, nn_le, nn_eq, nn_ltl, l_lt_nn, nn_lel, l_le_nn, nn_eql, l_eql, nn_nm1, xin_nn, xin_l, m1_lt, m1_le, m1_p, m1_z, dlt_T, dlt_F, dle_T, dle_F, deq_T, deq_F, sI_c, sI_n, sI_J, sI_E, sJ_c, sJ_n, sJ_I, sJ_E, sE_I, sE_J, sE_E, xcI_i, xcJ_i, xcR_i, xcV_i, xcI_e, xcJ_e, xcR_e, xcV_e, if_true, if_false, ite_true, ite_false, true_and, and_true, false_and, and_false, or_true, true_or, or_false, false_or, not_true_eq_false, not_false_eq_true, eq_self, ne_eq, ↓reduceIte, Nat.reduceEqDiff, Nat.reduceLT, Nat.reduceLeDiff, Nat.reduceAdd, Nat.reduceMul, Nat.reduceSub, Int32.reduceLT, Int32.reduceLE, reduceCtorEq, f_X12_takeField, f_X12_takeField_31, f_X12_takeField_54, h4, b2, e1, f2]
    · refine Or.inr ⟨?_, ?_⟩
      · simp (disch := omega) only [nn_add, nn_addl, l_add_nn, nn_sub, nn_subl, nn_m1, nn_mull, nn_t, nn_i, l_t, nn_lt, nn_le, nn_eq, nn_ltl, l_lt_nn, nn_lel, l_le_nn, nn_eql, l_eql, nn_nm1, xin_nn, xin_l, m1_lt, m1_le, m1_p, m1_z, dlt_T, dlt_F, dle_T, dle_F, deq_T, deq_F, sI_c, sI_n, sI_J, sI_E, sJ_c, sJ_n, sJ_I, sJ_E, sE_I, sE_J, sE_E, xcI_i, xcJ_i, xcR_i, xcV_i, xcI_e, xcJ_e, xcR_e, xcV_e, if_true, if_false, ite_true, ite_false, true_and, and_true, false_and, and_false, or_true, true_or, or_false, false_or, not_true_eq_false, not_false_eq_true, eq_self, ne_eq, ↓reduceIte, Nat.reduceEqDiff, Nat.reduceLT, Nat.reduceLeDiff, Nat.reduceAdd, Nat.reduceMul, Nat.reduceSub, Int32.reduceLT, Int32.reduceLE, reduceCtorEq, f_X7_takeField, p_name1 h hs, f1]
      · simp (disch := omega) only [nn_add, nn_addl, l_add_nn, nn_sub, nn_subl, nn_m1, nn_mull, nn_t, nn_i, l_t, nn_lt, nn_le, nn_eq, nn_ltl, l_lt_nn, nn_lel, l_le_nn, nn_eql, l_eql, nn_nm1, xin_nn, xin_l, m1_lt, m1_le, m1_p, m1_z, dlt_T, dlt_F, dle_T, dle_F, deq_T, deq_F, sI_c, sI_n, sI_J, sI_E, sJ_c, sJ_n, sJ_I, sJ_E, sE_I, sE_J, sE_E, xcI_i, xcJ_i, xcR_i, xcV_i, xcI_e, xcJ_e, xcR_e, xcV_e, if_true, if_false, ite_true, ite_false, true_and, and_true, false_and, and_false, or_true, true_or, or_false, false_or, not_true_eq_false, not_false_eq_true, eq_self, ne_eq, ↓reduceIte, Nat.reduceEqDiff, Nat.reduceLT, Nat.reduceLeDiff, Nat.reduceAdd, Nat.reduceMul, Nat.reduceSub, Int32.reduceLT, Int32.reduceLE, reduceCtorEq, f_X12_takeField, f_X12_takeField_31, f_X12_takeField_54, h4, b2, e1, f2, p_wrong h]
  · have e1 : ¬ tkr (s t) = 1 := fun z => hs ((tkr_1 hl).mp z)
    refine Or.inr ⟨?_, ?_⟩
    · simp (disch := omega) only [nn_add, nn_addl, l_add_nn, nn_sub, nn_subl, nn_m1, nn_mull, nn_t, nn_i, l_t, nn_lt, nn_le, nn_eq, nn_ltl, l_lt_nn, nn_lel, l_le_nn, nn_eql, l_eql, nn_nm1, xin_nn, xin_l, m1_lt, m1_le, m1_p, m1_z, dlt_T, dlt_F, dle_T, dle_F, deq_T, deq_F, sI_c, sI_n, sI_J, sI_E, sJ_c, sJ_n, sJ_I, sJ_E, sE_I, sE_J, sE_E, xcI_i, xcJ_i, xcR_i, xcV_i, xcI_e, xcJ_e, xcR_e, xcV_e, if_true, if_false, ite_true, ite_false, true_and, and_true, false_and, and_false, or_true, true_or, or_false, false_or, not_true_eq_false, not_false_eq_true, eq_self, ne_eq, ↓reduceIte, Nat.reduceEqDiff, Nat.reduceLT, Nat.reduceLeDiff, Nat.reduceAdd, Nat.reduceMul, Nat.reduceSub, Int32.reduceLT, Int32.reduceLE, reduceCtorEq, f_X7_takeField, p_name0 h hs, p_field0 hN (by omega) hkd]
    · simp (disch := omega) only [nn_add, nn_addl, l_add_nn, nn_sub, nn_subl, nn_m1, nn_mull, nn_t, nn_i, l_t, nn_lt, nn_le, nn_eq, nn_ltl, l_lt_nn, nn_lel, l_le_nn, nn_eql, l_eql, nn_nm1, xin_nn, xin_l, m1_lt, m1_le, m1_p, m1_z, dlt_T, dlt_F, dle_T, dle_F, deq_T, deq_F, sI_c, sI_n, sI_J, sI_E, sJ_c, sJ_n, sJ_I, sJ_E, sE_I, sE_J, sE_E, xcI_i, xcJ_i, xcR_i, xcV_i, xcI_e, xcJ_e, xcR_e, xcV_e, if_true, if_false, ite_true, ite_false, true_and, and_true, false_and, and_false, or_true, true_or, or_false, false_or, not_true_eq_false, not_false_eq_true, eq_self, ne_eq, ↓reduceIte, Nat.reduceEqDiff, Nat.reduceLT, Nat.reduceLeDiff, Nat.reduceAdd, Nat.reduceMul, Nat.reduceSub, Int32.reduceLT, Int32.reduceLE, reduceCtorEq, f_X12_takeField, f_X12_takeField_31, f_X12_takeField_54, h4, b2, p_wrong h]
end TK
