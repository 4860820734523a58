/-! 38: the state of reading; waiting acts released -/
def scb (nb : Nat) (ty : Nat → Nat) : Nat → Nat → Prop := fun b d => b < nb ∧ ty b = 4 ∧ d = lvl ty b
def xK (K : xS × xS) (p0 : Nat) (Sc : xS) : Prop := (∀ k, k < p0 → k < 151 → Sc.1 (103 + 2 * k) = K.1.1 (103 + 2 * k)) ∧ (∀ k, k < 151 → Sc.1 (102 + 2 * k) = K.1.1 (102 + 2 * k)) ∧ Sc.1 100 = K.1.1 100 ∧ Sc.1 101 = K.1.1 101 ∧ Sc.1 97 4 = K.1.1 97 4 ∧ Sc.1 97 6 = K.1.1 97 6 ∧ Sc.1 406 = K.1.1 406
def yK (K : xS × xS) (a0 : Nat) (Sr : xS) : Prop := (∀ k, k < a0 → Sr.1 518 k = K.2.1 518 k) ∧ Sr.1 525 = K.2.1 525 ∧ ∀ q, 520 ≤ q → q ≤ 523 → Sr.1 q = K.2.1 q
theorem xK_s {K : xS × xS} {p0 q j : Nat} {v : Int32} {B : xS} (h : xK K p0 B) (hq : (q = 97 ∧ j = 5) ∨ q = 407 ∨ q = 408 ∨ q = 405 ∨ q = 1 ∨ ∃ k, q = 103 + 2 * k ∧ p0 ≤ k ∧ k < 151) : xK K p0 (sI B q j v) := by
  obtain ⟨h1, h2, h3, h4, h5, h6, h7⟩ := h
  refine ⟨fun k hk hk9 => ?_, fun k hk => ?_, ?_, ?_, ?_, ?_, ?_⟩
  · rw [sI_n]
    · exact h1 k hk hk9
    · rcases hq with z | z | z | z | z | ⟨k2, z, z2, z3⟩ <;> omega
  · rw [sI_n]
    · exact h2 k hk
    · rcases hq with z | z | z | z | z | ⟨k2, z, z2, z3⟩ <;> omega
  · rw [sI_n]
    · exact h3
    · rcases hq with z | z | z | z | z | ⟨k2, z, z2, z3⟩ <;> omega
  · rw [sI_n]
    · exact h4
    · rcases hq with z | z | z | z | z | ⟨k2, z, z2, z3⟩ <;> omega
  · rw [sI_c, if_neg]
    · exact h5
    · rcases hq with z | z | z | z | z | ⟨k2, z, z2, z3⟩ <;> omega
  · rw [sI_c, if_neg]
    · exact h6
    · rcases hq with z | z | z | z | z | ⟨k2, z, z2, z3⟩ <;> omega
  · rw [sI_n]
    · exact h7
    · rcases hq with z | z | z | z | z | ⟨k2, z, z2, z3⟩ <;> omega
theorem xK_p {K : xS × xS} {p0 k j : Nat} {v : Int32} {B : xS} (h : xK K p0 B) (hk : p0 ≤ k) (hk2 : k < 151) : xK K p0 (sI B (103 + 2 * k) j v) := xK_s h (Or.inr (Or.inr (Or.inr (Or.inr (Or.inr ⟨k, rfl, hk, hk2⟩)))))
theorem yK_s {K : xS × xS} {a0 q j : Nat} {v : Int32} {B : xS} (h : yK K a0 B) (hq : (q = 518 ∧ a0 ≤ j) ∨ q = 519 ∨ q = 503) : yK K a0 (sI B q j v) := by
  obtain ⟨h1, h2, h3⟩ := h
  refine ⟨fun k hk => ?_, ?_, fun a b c => ?_⟩
  · rw [sI_c, if_neg (by omega)]; exact h1 k hk
  · rw [sI_n (by omega)]; exact h2
  · rw [sI_n (by omega)]; exact h3 a b c
def EI (Sc Sr : xS) (m : Nat) (s : Nat → Nat) (t nk nv : Nat) (wd : Nat → Nat) (nb ns : Nat) (ty op kd A : Nat → Nat) (K : xS × xS) (p0 a0 rk0 : Nat) (E : List xCe) (og : Option (xIt × List xIt)) (tp : Nat) (w : Nat → Nat) (wn d rec : Nat) : Prop :=
  r_P Sc Sr m s t nk nv wd ∧ r_bk Sc Sr nb ns ty op kd A nk ∧ XW Sc Sr tp w ∧ XC Sc Sr p0 a0 (flo E og) ∧ XD Sc Sr (d + bc w tp) (bc w tp) rec ∧ PL rk0 (scb nb ty) E og tp w wn rec ∧ (∀ z, og = some z → Sc.1 407 8 = nn (p0 + (fl E).length)) ∧ p0 + (flo E og).length + tp + 1 ≤ t ∧ a0 + (cdl (flo E og)).length + 2 * tp ≤ 12 * t ∧ rec ≤ nk ∧ xK K p0 Sc ∧ yK K a0 Sr
def xfr (Sc Sc' : xS) : Prop := agc Sc Sc' ∧ (∀ k, k < 151 → Sc'.1 (102 + 2 * k) = Sc.1 (102 + 2 * k)) ∧ Sc'.1 405 4 = Sc.1 405 4 ∧ Sc'.1 406 = Sc.1 406
def yfr (Sr Sr' : xS) : Prop := agr Sr Sr' ∧ Sr'.1 503 30 = Sr.1 503 30 ∧ ∀ q, 520 ≤ q → q ≤ 523 → Sr'.1 q = Sr.1 q
theorem xfr_r (S : xS) : xfr S S := ⟨agc_r S, fun _ _ => rfl, rfl, rfl⟩
theorem yfr_r (S : xS) : yfr S S := ⟨agr_r S, rfl, fun _ _ _ => rfl⟩
theorem xfr_s {A B : xS} {q j : Nat} {v : Int32} (h : xfr A B) (hq : q = 97 ∨ q = 407 ∨ q = 408 ∨ (q = 405 ∧ j = 5) ∨ ∃ k, q = 103 + 2 * k ∧ k < 151) : xfr A (sI B q j v) := by
  obtain ⟨h1, h2, h3, h4⟩ := h
  have hz : 97 ≤ q := by rcases hq with z | z | z | z | ⟨k, z, _⟩ <;> omega
  have h6 : ¬ 406 = q := by rcases hq with z | z | z | z | ⟨k, z, _⟩ <;> omega
  refine ⟨agc_s h1 hz, fun k hk => ?_, ?_, by rw [sI_n h6]; exact h4⟩
  · rw [sI_n]
    · exact h2 k hk
    · rcases hq with z | z | z | z | ⟨k, z, _⟩ <;> omega
  · rw [sI_c, if_neg]
    · exact h3
    · rcases hq with z | z | z | z | ⟨k, z, _⟩ <;> omega
theorem yfr_s {A B : xS} {q j : Nat} {v : Int32} (h : yfr A B) (hq : q = 518 ∨ q = 519 ∨ (q = 503 ∧ 24 ≤ j ∧ ¬ j = 30)) : yfr A (sI B q j v) := by
  obtain ⟨h1, h2, h3⟩ := h
  refine ⟨?_, ?_, fun a ha hb => ?_⟩
  · rcases hq with z | z | ⟨z, z1, z2⟩
    · exact agr_s h1 (by omega)
    · exact agr_s h1 (by omega)
    · subst z
      exact agr_f h1 z1
  · rw [sI_c, if_neg (by omega)]; exact h2
  · rw [sI_n (by omega)]; exact h3 a ha hb
theorem xfr_e {A B : xS} (h : xfr A B) : xfr A (sE B) := ⟨agc_e h.1, h.2⟩
theorem xfr_t {A B C : xS} (h : xfr A B) (g : xfr B C) : xfr A C := ⟨agc_t h.1 g.1, fun k hk => (g.2.1 k hk).trans (h.2.1 k hk), g.2.2.1.trans h.2.2.1, g.2.2.2.trans h.2.2.2⟩
theorem yfr_t {A B C : xS} (h : yfr A B) (g : yfr B C) : yfr A C := ⟨agr_t h.1 g.1, g.2.1.trans h.2.1, fun q a b => (g.2.2 q a b).trans (h.2.2 q a b)⟩
section EX
variable {Sc Sr Sc' Sr' : xS} {m t nk nv nb ns p0 a0 rk0 tp wn d rec N : Nat} {s wd ty op kd A w : Nat → Nat} {E : List xCe} {og : Option (xIt × List xIt)} {K : xS × xS}
theorem r_bk_c (h : r_bk Sc Sr nb ns ty op kd A nk) (h1 : Sc'.1 405 4 = Sc.1 405 4) (h2 : Sc'.1 406 = Sc.1 406) (h3 : ∀ k, k < 151 → Sc'.1 (102 + 2 * k) = Sc.1 (102 + 2 * k)) (h4 : Sr'.1 503 30 = Sr.1 503 30) (h5 : ∀ q, 520 ≤ q → q ≤ 523 → Sr'.1 q = Sr.1 q) : r_bk Sc' Sr' nb ns ty op kd A nk := by
  obtain ⟨a1, a2, a3, a4, a5⟩ := h
  refine ⟨a1, a2, h1.trans a3, h4.trans a4, fun i hi => ?_⟩
  have := a5 i hi
  rw [h2, h3 (op i) (by omega), h5 520 (by omega) (by omega), h5 521 (by omega) (by omega), h5 522 (by omega) (by omega), h5 523 (by omega) (by omega)]
  exact this
theorem r_bk_f (h : r_bk Sc Sr nb ns ty op kd A nk) (hc : xfr Sc Sc') (hr : yfr Sr Sr') : r_bk Sc' Sr' nb ns ty op kd A nk := r_bk_c h hc.2.2.1 hc.2.2.2 hc.2.1 hr.2.1 hr.2.2
theorem r_P_f (h : r_P Sc Sr m s t nk nv wd) (hc : xfr Sc Sc') (hr : yfr Sr Sr') : r_P Sc' Sr' m s t nk nv wd := r_P_c h hc.1 hr.1
theorem r_bk_n {x y : Int32} (h : r_bk Sc Sr nb ns ty op kd A nk) : r_bk (sI Sc 1 7 x) (sI Sr 503 20 y) nb ns ty op kd A nk := r_bk_c h (by simp (disch := omega) only [nn_add, nn_addl, l_add_nn, nn_sub, nn_subl, nn_m1, nn_mull, nn_t, nn_i, l_t, nn_lt, nn_le, nn_eq, nn_ltl, l_lt_nn, nn_lel, l_le_nn, nn_eql, l_eql, nn_nm1, xin_nn, xin_l, m1_lt, m1_le, m1_p, m1_z, dlt_T, dlt_F, dle_T, dle_F, deq_T, deq_F, sI_c, sI_n, sI_J, sI_E, sJ_c, sJ_n, sJ_I, sJ_E, sE_I, sE_J, sE_E, xcI_i, xcJ_i, xcR_i, xcV_i, xcI_e, xcJ_e, xcR_e, xcV_e, if_true, if_false, ite_true, ite_false, true_and, and_true, false_and, and_false, or_true, true_or, or_false, false_or, not_true_eq_false, not_false_eq_true, eq_self, ne_eq, ↓reduceIte, Nat.reduceEqDiff, Nat.reduceLT, Nat.reduceLeDiff, Nat.reduceAdd, Nat.reduceMul, Nat.reduceSub, Int32.reduceLT, Int32.reduceLE, reduceCtorEq]) (by simp (disch := omega) only [nn_add, nn_addl, l_add_nn, nn_sub, nn_subl, nn_m1, nn_mull, nn_t, nn_i, l_t, nn_lt, nn_le, nn_eq, nn_ltl, l_lt_nn, nn_lel, l_le_nn, nn_eql, l_eql, nn_nm1, xin_nn, xin_l, m1_lt, m1_le, m1_p, m1_z, dlt_T, dlt_F, dle_T, dle_F, deq_T, deq_F, sI_c, sI_n, sI_J, sI_E, sJ_c, sJ_n, sJ_I, sJ_E, sE_I, sE_J, sE_E, xcI_i, xcJ_i, xcR_i, xcV_i, xcI_e, xcJ_e, xcR_e, xcV_e, if_true, if_false, ite_true, ite_false, true_and, and_true, false_and, and_false, or_true, true_or, or_false, false_or, not_true_eq_false, not_false_eq_true, eq_self, ne_eq, ↓reduceIte, Nat.reduceEqDiff, Nat.reduceLT, Nat.reduceLeDiff, Nat.reduceAdd, Nat.reduceMul, Nat.reduceSub, Int32.reduceLT, Int32.reduceLE, reduceCtorEq]) (fun k hk => by simp (disch := omega) only [nn_add, nn_addl, l_add_nn, nn_sub, nn_subl, nn_m1, nn_mull, nn_t, nn_i, l_t, nn_lt, nn_le, nn_eq, nn_ltl, l_lt_nn, nn_lel, l_le_nn, nn_eql, l_eql, nn_nm1, xin_nn, xin_l, m1_lt, m1_le, m1_p, m1_z, dlt_T, dlt_F, dle_T, dle_F, deq_T, deq_F, sI_c, sI_n, sI_J, sI_E, sJ_c, sJ_n, sJ_I, sJ_E, sE_I, sE_J, sE_E, xcI_i, xcJ_i, xcR_i, xcV_i, xcI_e, xcJ_e, xcR_e, xcV_e, if_true, if_false, ite_true, ite_false, true_and, and_true, false_and, and_false, or_true, true_or, or_false, false_or, not_true_eq_false, not_false_eq_true, eq_self, ne_eq, ↓reduceIte, Nat.reduceEqDiff, Nat.reduceLT, Nat.reduceLeDiff, Nat.reduceAdd, Nat.reduceMul, Nat.reduceSub, Int32.reduceLT, Int32.reduceLE, reduceCtorEq]) (by simp (disch := omega) only [nn_add, nn_addl, l_add_nn, nn_sub, nn_subl, nn_m1, nn_mull, nn_t, nn_i, l_t, nn_lt, nn_le, nn_eq, nn_ltl, l_lt_nn, nn_lel, l_le_nn, nn_eql, l_eql, nn_nm1, xin_nn, xin_l, m1_lt, m1_le, m1_p, m1_z, dlt_T, dlt_F, dle_T, dle_F, deq_T, deq_F, sI_c, sI_n, sI_J, sI_E, sJ_c, sJ_n, sJ_I, sJ_E, sE_I, sE_J, sE_E, xcI_i, xcJ_i, xcR_i, xcV_i, xcI_e, xcJ_e, xcR_e, xcV_e, if_true, if_false, ite_true, ite_false, true_and, and_true, false_and, and_false, or_true, true_or, or_false, false_or, not_true_eq_false, not_false_eq_true, eq_self, ne_eq, ↓reduceIte, Nat.reduceEqDiff, Nat.reduceLT, Nat.reduceLeDiff, Nat.reduceAdd, Nat.reduceMul, Nat.reduceSub, Int32.reduceLT, Int32.reduceLE, reduceCtorEq]) (fun q h1 h2 => by simp (disch := omega) only [nn_add, nn_addl, l_add_nn, nn_sub, nn_subl, nn_m1, nn_mull, nn_t, nn_i, l_t, nn_lt, nn_le, nn_eq, nn_ltl, l_lt_nn, nn_lel, l_le_nn, nn_eql, l_eql, nn_nm1, xin_nn, xin_l, m1_lt, m1_le, m1_p, m1_z, dlt_T, dlt_F, dle_T, dle_F, deq_T, deq_F, sI_c, sI_n, sI_J, sI_E, sJ_c, sJ_n, sJ_I, sJ_E, sE_I, sE_J, sE_E, xcI_i, xcJ_i, xcR_i, xcV_i, xcI_e, xcJ_e, xcR_e, xcV_e, if_true, if_false, ite_true, ite_false, true_and, and_true, false_and, and_false, or_true, true_or, or_false, false_or, not_true_eq_false, not_false_eq_true, eq_self, ne_eq, ↓reduceIte, Nat.reduceEqDiff, Nat.reduceLT, Nat.reduceLeDiff, Nat.reduceAdd, Nat.reduceMul, Nat.reduceSub, Int32.reduceLT, Int32.reduceLE, reduceCtorEq])
theorem p_pop1 (h : EI Sc Sr m s t nk nv wd nb ns ty op kd A K p0 a0 rk0 E og (tp + 1) w 1 d rec) (hr : 1 ≤ rk (w tp)) :
    EI (sI (sI (sI Sc 407 5 (nn tp)) (103 + 2 * (p0 + (flo E og).length)) 0 (nn (w tp))) 97 5 (nn (p0 + (flo E og).length + 1))) (sI (sI (sI Sr 503 28 (nn tp)) 518 (a0 + (cdl (flo E og)).length) (nn (pm (w tp)))) 503 25 (nn (a0 + (cdl (flo E og)).length + 1))) m s t nk nv wd nb ns ty op kd A K p0 a0 rk0 (snE E og (pm (w tp), 0, 0, 0, 0)).1 (snE E og (pm (w tp), 0, 0, 0, 0)).2 tp w 1 d rec := by
  obtain ⟨e1, e2, e3, e4, e5, e6, e7, e8, e9, e10, eK⟩ := h
  obtain ⟨w1, w2, w3, w4⟩ := e3
  obtain ⟨hw, _, _⟩ := w4 tp (by omega)
  obtain ⟨q1, q2, q3⟩ := acti_pm hw hr
  have hm := e1.1.1
  have htm := e1.2.1
  have hb : bc w (tp + 1) = bc w tp := by
    show bc w tp + _ = _
    rw [if_neg (fun z => by have := (rk_0 hw).mpr z; omega)]
    rfl
  rw [hb] at e5
  have hflo : flo (snE E og (pm (w tp), 0, 0, 0, 0)).1 (snE E og (pm (w tp), 0, 0, 0, 0)).2 = flo E og ++ [(pm (w tp), 0, 0, 0, 0)] := flo_sn (by show ¬ pm (w tp) = 30; omega)
  have hitc : itc (pm (w tp), 0, 0, 0, 0) = [nn (pm (w tp))] := by
    unfold itc
    simp (disch := omega) only [nn_add, nn_addl, l_add_nn, nn_sub, nn_subl, nn_m1, nn_mull, nn_t, nn_i, l_t, nn_lt, nn_le, nn_eq, nn_ltl, l_lt_nn, nn_lel, l_le_nn, nn_eql, l_eql, nn_nm1, xin_nn, xin_l, m1_lt, m1_le, m1_p, m1_z, dlt_T, dlt_F, dle_T, dle_F, deq_T, deq_F, sI_c, sI_n, sI_J, sI_E, sJ_c, sJ_n, sJ_I, sJ_E, sE_I, sE_J, sE_E, xcI_i, xcJ_i, xcR_i, xcV_i, xcI_e, xcJ_e, xcR_e, xcV_e, if_true, if_false, ite_true, ite_false, true_and, and_true, false_and, and_false, or_true, true_or, or_false, false_or, not_true_eq_false, not_false_eq_true, eq_self, ne_eq, ↓reduceIte, Nat.reduceEqDiff, Nat.reduceLT, Nat.reduceLeDiff, Nat.reduceAdd, Nat.reduceMul, Nat.reduceSub, Int32.reduceLT, Int32.reduceLE, reduceCtorEq]
  have fx : xfr Sc (sI (sI (sI Sc 407 5 (nn tp)) (103 + 2 * (p0 + (flo E og).length)) 0 (nn (w tp))) 97 5 (nn (p0 + (flo E og).length + 1))) := xfr_s (xfr_s (xfr_s (xfr_r _) (by omega)) (Or.inr (Or.inr (Or.inr (Or.inr ⟨_, rfl, by omega⟩))))) (by omega)
  have fy : yfr Sr (sI (sI (sI Sr 503 28 (nn tp)) 518 (a0 + (cdl (flo E og)).length) (nn (pm (w tp)))) 503 25 (nn (a0 + (cdl (flo E og)).length + 1))) := yfr_s (yfr_s (yfr_s (yfr_r _) (by omega)) (by omega)) (by omega)
  refine ⟨r_P_f e1 fx fy, r_bk_f e2 fx fy, ⟨by omega, by simp (disch := omega) only [nn_add, nn_addl, l_add_nn, nn_sub, nn_subl, nn_m1, nn_mull, nn_t, nn_i, l_t, nn_lt, nn_le, nn_eq, nn_ltl, l_lt_nn, nn_lel, l_le_nn, nn_eql, l_eql, nn_nm1, xin_nn, xin_l, m1_lt, m1_le, m1_p, m1_z, dlt_T, dlt_F, dle_T, dle_F, deq_T, deq_F, sI_c, sI_n, sI_J, sI_E, sJ_c, sJ_n, sJ_I, sJ_E, sE_I, sE_J, sE_E, xcI_i, xcJ_i, xcR_i, xcV_i, xcI_e, xcJ_e, xcR_e, xcV_e, if_true, if_false, ite_true, ite_false, true_and, and_true, false_and, and_false, or_true, true_or, or_false, false_or, not_true_eq_false, not_false_eq_true, eq_self, ne_eq, ↓reduceIte, Nat.reduceEqDiff, Nat.reduceLT, Nat.reduceLeDiff, Nat.reduceAdd, Nat.reduceMul, Nat.reduceSub, Int32.reduceLT, Int32.reduceLE, reduceCtorEq], by simp (disch := omega) only [nn_add, nn_addl, l_add_nn, nn_sub, nn_subl, nn_m1, nn_mull, nn_t, nn_i, l_t, nn_lt, nn_le, nn_eq, nn_ltl, l_lt_nn, nn_lel, l_le_nn, nn_eql, l_eql, nn_nm1, xin_nn, xin_l, m1_lt, m1_le, m1_p, m1_z, dlt_T, dlt_F, dle_T, dle_F, deq_T, deq_F, sI_c, sI_n, sI_J, sI_E, sJ_c, sJ_n, sJ_I, sJ_E, sE_I, sE_J, sE_E, xcI_i, xcJ_i, xcR_i, xcV_i, xcI_e, xcJ_e, xcR_e, xcV_e, if_true, if_false, ite_true, ite_false, true_and, and_true, false_and, and_false, or_true, true_or, or_false, false_or, not_true_eq_false, not_false_eq_true, eq_self, ne_eq, ↓reduceIte, Nat.reduceEqDiff, Nat.reduceLT, Nat.reduceLeDiff, Nat.reduceAdd, Nat.reduceMul, Nat.reduceSub, Int32.reduceLT, Int32.reduceLE, reduceCtorEq], fun i hi => ?_⟩, ?_, ?_, PL_pop e6 hw hr, fun z hz => ?_, ?_, ?_, e10, xK_s (xK_p (xK_s eK.1 (by omega)) (by omega) (by omega)) (by omega), yK_s (yK_s (yK_s eK.2 (by omega)) (by omega)) (by omega)⟩
  · simp (disch := omega) only [nn_add, nn_addl, l_add_nn, nn_sub, nn_subl, nn_m1, nn_mull, nn_t, nn_i, l_t, nn_lt, nn_le, nn_eq, nn_ltl, l_lt_nn, nn_lel, l_le_nn, nn_eql, l_eql, nn_nm1, xin_nn, xin_l, m1_lt, m1_le, m1_p, m1_z, dlt_T, dlt_F, dle_T, dle_F, deq_T, deq_F, sI_c, sI_n, sI_J, sI_E, sJ_c, sJ_n, sJ_I, sJ_E, sE_I, sE_J, sE_E, xcI_i, xcJ_i, xcR_i, xcV_i, xcI_e, xcJ_e, xcR_e, xcV_e, if_true, if_false, ite_true, ite_false, true_and, and_true, false_and, and_false, or_true, true_or, or_false, false_or, not_true_eq_false, not_false_eq_true, eq_self, ne_eq, ↓reduceIte, Nat.reduceEqDiff, Nat.reduceLT, Nat.reduceLeDiff, Nat.reduceAdd, Nat.reduceMul, Nat.reduceSub, Int32.reduceLT, Int32.reduceLE, reduceCtorEq]
    exact w4 i (by omega)
  · rw [hflo]
    refine XC_s e4 _ (by simp (disch := omega) only [nn_add, nn_addl, l_add_nn, nn_sub, nn_subl, nn_m1, nn_mull, nn_t, nn_i, l_t, nn_lt, nn_le, nn_eq, nn_ltl, l_lt_nn, nn_lel, l_le_nn, nn_eql, l_eql, nn_nm1, xin_nn, xin_l, m1_lt, m1_le, m1_p, m1_z, dlt_T, dlt_F, dle_T, dle_F, deq_T, deq_F, sI_c, sI_n, sI_J, sI_E, sJ_c, sJ_n, sJ_I, sJ_E, sE_I, sE_J, sE_E, xcI_i, xcJ_i, xcR_i, xcV_i, xcI_e, xcJ_e, xcR_e, xcV_e, if_true, if_false, ite_true, ite_false, true_and, and_true, false_and, and_false, or_true, true_or, or_false, false_or, not_true_eq_false, not_false_eq_true, eq_self, ne_eq, ↓reduceIte, Nat.reduceEqDiff, Nat.reduceLT, Nat.reduceLeDiff, Nat.reduceAdd, Nat.reduceMul, Nat.reduceSub, Int32.reduceLT, Int32.reduceLE, reduceCtorEq]) (fun k hk => by simp (disch := omega) only [nn_add, nn_addl, l_add_nn, nn_sub, nn_subl, nn_m1, nn_mull, nn_t, nn_i, l_t, nn_lt, nn_le, nn_eq, nn_ltl, l_lt_nn, nn_lel, l_le_nn, nn_eql, l_eql, nn_nm1, xin_nn, xin_l, m1_lt, m1_le, m1_p, m1_z, dlt_T, dlt_F, dle_T, dle_F, deq_T, deq_F, sI_c, sI_n, sI_J, sI_E, sJ_c, sJ_n, sJ_I, sJ_E, sE_I, sE_J, sE_E, xcI_i, xcJ_i, xcR_i, xcV_i, xcI_e, xcJ_e, xcR_e, xcV_e, if_true, if_false, ite_true, ite_false, true_and, and_true, false_and, and_false, or_true, true_or, or_false, false_or, not_true_eq_false, not_false_eq_true, eq_self, ne_eq, ↓reduceIte, Nat.reduceEqDiff, Nat.reduceLT, Nat.reduceLeDiff, Nat.reduceAdd, Nat.reduceMul, Nat.reduceSub, Int32.reduceLT, Int32.reduceLE, reduceCtorEq]) ?_ (by rw [hitc]; simp (disch := omega) only [nn_add, nn_addl, l_add_nn, nn_sub, nn_subl, nn_m1, nn_mull, nn_t, nn_i, l_t, nn_lt, nn_le, nn_eq, nn_ltl, l_lt_nn, nn_lel, l_le_nn, nn_eql, l_eql, nn_nm1, xin_nn, xin_l, m1_lt, m1_le, m1_p, m1_z, dlt_T, dlt_F, dle_T, dle_F, deq_T, deq_F, sI_c, sI_n, sI_J, sI_E, sJ_c, sJ_n, sJ_I, sJ_E, sE_I, sE_J, sE_E, xcI_i, xcJ_i, xcR_i, xcV_i, xcI_e, xcJ_e, xcR_e, xcV_e, if_true, if_false, ite_true, ite_false, true_and, and_true, false_and, and_false, or_true, true_or, or_false, false_or, not_true_eq_false, not_false_eq_true, eq_self, ne_eq, ↓reduceIte, Nat.reduceEqDiff, Nat.reduceLT, Nat.reduceLeDiff, Nat.reduceAdd, Nat.reduceMul, Nat.reduceSub, Int32.reduceLT, Int32.reduceLE, reduceCtorEq, List.length_cons, List.length_nil, Nat.zero_add]) (fun k hk => by simp (disch := omega) only [nn_add, nn_addl, l_add_nn, nn_sub, nn_subl, nn_m1, nn_mull, nn_t, nn_i, l_t, nn_lt, nn_le, nn_eq, nn_ltl, l_lt_nn, nn_lel, l_le_nn, nn_eql, l_eql, nn_nm1, xin_nn, xin_l, m1_lt, m1_le, m1_p, m1_z, dlt_T, dlt_F, dle_T, dle_F, deq_T, deq_F, sI_c, sI_n, sI_J, sI_E, sJ_c, sJ_n, sJ_I, sJ_E, sE_I, sE_J, sE_E, xcI_i, xcJ_i, xcR_i, xcV_i, xcI_e, xcJ_e, xcR_e, xcV_e, if_true, if_false, ite_true, ite_false, true_and, and_true, false_and, and_false, or_true, true_or, or_false, false_or, not_true_eq_false, not_false_eq_true, eq_self, ne_eq, ↓reduceIte, Nat.reduceEqDiff, Nat.reduceLT, Nat.reduceLeDiff, Nat.reduceAdd, Nat.reduceMul, Nat.reduceSub, Int32.reduceLT, Int32.reduceLE, reduceCtorEq]) ?_
    · unfold itp
      simp (disch := omega) only [nn_add, nn_addl, l_add_nn, nn_sub, nn_subl, nn_m1, nn_mull, nn_t, nn_i, l_t, nn_lt, nn_le, nn_eq, nn_ltl, l_lt_nn, nn_lel, l_le_nn, nn_eql, l_eql, nn_nm1, xin_nn, xin_l, m1_lt, m1_le, m1_p, m1_z, dlt_T, dlt_F, dle_T, dle_F, deq_T, deq_F, sI_c, sI_n, sI_J, sI_E, sJ_c, sJ_n, sJ_I, sJ_E, sE_I, sE_J, sE_E, xcI_i, xcJ_i, xcR_i, xcV_i, xcI_e, xcJ_e, xcR_e, xcV_e, if_true, if_false, ite_true, ite_false, true_and, and_true, false_and, and_false, or_true, true_or, or_false, false_or, not_true_eq_false, not_false_eq_true, eq_self, ne_eq, ↓reduceIte, Nat.reduceEqDiff, Nat.reduceLT, Nat.reduceLeDiff, Nat.reduceAdd, Nat.reduceMul, Nat.reduceSub, Int32.reduceLT, Int32.reduceLE, reduceCtorEq, q1]
    · rw [hitc]
      intro i hi
      have : i = 0 := by simpa using hi
      subst this
      simp (disch := omega) only [nn_add, nn_addl, l_add_nn, nn_sub, nn_subl, nn_m1, nn_mull, nn_t, nn_i, l_t, nn_lt, nn_le, nn_eq, nn_ltl, l_lt_nn, nn_lel, l_le_nn, nn_eql, l_eql, nn_nm1, xin_nn, xin_l, m1_lt, m1_le, m1_p, m1_z, dlt_T, dlt_F, dle_T, dle_F, deq_T, deq_F, sI_c, sI_n, sI_J, sI_E, sJ_c, sJ_n, sJ_I, sJ_E, sE_I, sE_J, sE_E, xcI_i, xcJ_i, xcR_i, xcV_i, xcI_e, xcJ_e, xcR_e, xcV_e, if_true, if_false, ite_true, ite_false, true_and, and_true, false_and, and_false, or_true, true_or, or_false, false_or, not_true_eq_false, not_false_eq_true, eq_self, ne_eq, ↓reduceIte, Nat.reduceEqDiff, Nat.reduceLT, Nat.reduceLeDiff, Nat.reduceAdd, Nat.reduceMul, Nat.reduceSub, Int32.reduceLT, Int32.reduceLE, reduceCtorEq, Nat.add_zero]
      rfl
  · obtain ⟨d1, d2, d3, d4, d5, d6, d7, d8⟩ := e5
    exact ⟨d1, d2, by simp (disch := omega) only [nn_add, nn_addl, l_add_nn, nn_sub, nn_subl, nn_m1, nn_mull, nn_t, nn_i, l_t, nn_lt, nn_le, nn_eq, nn_ltl, l_lt_nn, nn_lel, l_le_nn, nn_eql, l_eql, nn_nm1, xin_nn, xin_l, m1_lt, m1_le, m1_p, m1_z, dlt_T, dlt_F, dle_T, dle_F, deq_T, deq_F, sI_c, sI_n, sI_J, sI_E, sJ_c, sJ_n, sJ_I, sJ_E, sE_I, sE_J, sE_E, xcI_i, xcJ_i, xcR_i, xcV_i, xcI_e, xcJ_e, xcR_e, xcV_e, if_true, if_false, ite_true, ite_false, true_and, and_true, false_and, and_false, or_true, true_or, or_false, false_or, not_true_eq_false, not_false_eq_true, eq_self, ne_eq, ↓reduceIte, Nat.reduceEqDiff, Nat.reduceLT, Nat.reduceLeDiff, Nat.reduceAdd, Nat.reduceMul, Nat.reduceSub, Int32.reduceLT, Int32.reduceLE, reduceCtorEq]; exact d3, by simp (disch := omega) only [nn_add, nn_addl, l_add_nn, nn_sub, nn_subl, nn_m1, nn_mull, nn_t, nn_i, l_t, nn_lt, nn_le, nn_eq, nn_ltl, l_lt_nn, nn_lel, l_le_nn, nn_eql, l_eql, nn_nm1, xin_nn, xin_l, m1_lt, m1_le, m1_p, m1_z, dlt_T, dlt_F, dle_T, dle_F, deq_T, deq_F, sI_c, sI_n, sI_J, sI_E, sJ_c, sJ_n, sJ_I, sJ_E, sE_I, sE_J, sE_E, xcI_i, xcJ_i, xcR_i, xcV_i, xcI_e, xcJ_e, xcR_e, xcV_e, if_true, if_false, ite_true, ite_false, true_and, and_true, false_and, and_false, or_true, true_or, or_false, false_or, not_true_eq_false, not_false_eq_true, eq_self, ne_eq, ↓reduceIte, Nat.reduceEqDiff, Nat.reduceLT, Nat.reduceLeDiff, Nat.reduceAdd, Nat.reduceMul, Nat.reduceSub, Int32.reduceLT, Int32.reduceLE, reduceCtorEq]; exact d4, by simp (disch := omega) only [nn_add, nn_addl, l_add_nn, nn_sub, nn_subl, nn_m1, nn_mull, nn_t, nn_i, l_t, nn_lt, nn_le, nn_eq, nn_ltl, l_lt_nn, nn_lel, l_le_nn, nn_eql, l_eql, nn_nm1, xin_nn, xin_l, m1_lt, m1_le, m1_p, m1_z, dlt_T, dlt_F, dle_T, dle_F, deq_T, deq_F, sI_c, sI_n, sI_J, sI_E, sJ_c, sJ_n, sJ_I, sJ_E, sE_I, sE_J, sE_E, xcI_i, xcJ_i, xcR_i, xcV_i, xcI_e, xcJ_e, xcR_e, xcV_e, if_true, if_false, ite_true, ite_false, true_and, and_true, false_and, and_false, or_true, true_or, or_false, false_or, not_true_eq_false, not_false_eq_true, eq_self, ne_eq, ↓reduceIte, Nat.reduceEqDiff, Nat.reduceLT, Nat.reduceLeDiff, Nat.reduceAdd, Nat.reduceMul, Nat.reduceSub, Int32.reduceLT, Int32.reduceLE, reduceCtorEq]; exact d5, by simp (disch := omega) only [nn_add, nn_addl, l_add_nn, nn_sub, nn_subl, nn_m1, nn_mull, nn_t, nn_i, l_t, nn_lt, nn_le, nn_eq, nn_ltl, l_lt_nn, nn_lel, l_le_nn, nn_eql, l_eql, nn_nm1, xin_nn, xin_l, m1_lt, m1_le, m1_p, m1_z, dlt_T, dlt_F, dle_T, dle_F, deq_T, deq_F, sI_c, sI_n, sI_J, sI_E, sJ_c, sJ_n, sJ_I, sJ_E, sE_I, sE_J, sE_E, xcI_i, xcJ_i, xcR_i, xcV_i, xcI_e, xcJ_e, xcR_e, xcV_e, if_true, if_false, ite_true, ite_false, true_and, and_true, false_and, and_false, or_true, true_or, or_false, false_or, not_true_eq_false, not_false_eq_true, eq_self, ne_eq, ↓reduceIte, Nat.reduceEqDiff, Nat.reduceLT, Nat.reduceLeDiff, Nat.reduceAdd, Nat.reduceMul, Nat.reduceSub, Int32.reduceLT, Int32.reduceLE, reduceCtorEq]; exact d6, by simp (disch := omega) only [nn_add, nn_addl, l_add_nn, nn_sub, nn_subl, nn_m1, nn_mull, nn_t, nn_i, l_t, nn_lt, nn_le, nn_eq, nn_ltl, l_lt_nn, nn_lel, l_le_nn, nn_eql, l_eql, nn_nm1, xin_nn, xin_l, m1_lt, m1_le, m1_p, m1_z, dlt_T, dlt_F, dle_T, dle_F, deq_T, deq_F, sI_c, sI_n, sI_J, sI_E, sJ_c, sJ_n, sJ_I, sJ_E, sE_I, sE_J, sE_E, xcI_i, xcJ_i, xcR_i, xcV_i, xcI_e, xcJ_e, xcR_e, xcV_e, if_true, if_false, ite_true, ite_false, true_and, and_true, false_and, and_false, or_true, true_or, or_false, false_or, not_true_eq_false, not_false_eq_true, eq_self, ne_eq, ↓reduceIte, Nat.reduceEqDiff, Nat.reduceLT, Nat.reduceLeDiff, Nat.reduceAdd, Nat.reduceMul, Nat.reduceSub, Int32.reduceLT, Int32.reduceLE, reduceCtorEq]; exact d7, d8⟩
  · simp (disch := omega) only [nn_add, nn_addl, l_add_nn, nn_sub, nn_subl, nn_m1, nn_mull, nn_t, nn_i, l_t, nn_lt, nn_le, nn_eq, nn_ltl, l_lt_nn, nn_lel, l_le_nn, nn_eql, l_eql, nn_nm1, xin_nn, xin_l, m1_lt, m1_le, m1_p, m1_z, dlt_T, dlt_F, dle_T, dle_F, deq_T, deq_F, sI_c, sI_n, sI_J, sI_E, sJ_c, sJ_n, sJ_I, sJ_E, sE_I, sE_J, sE_E, xcI_i, xcJ_i, xcR_i, xcV_i, xcI_e, xcJ_e, xcR_e, xcV_e, if_true, if_false, ite_true, ite_false, true_and, and_true, false_and, and_false, or_true, true_or, or_false, false_or, not_true_eq_false, not_false_eq_true, eq_self, ne_eq, ↓reduceIte, Nat.reduceEqDiff, Nat.reduceLT, Nat.reduceLeDiff, Nat.reduceAdd, Nat.reduceMul, Nat.reduceSub, Int32.reduceLT, Int32.reduceLE, reduceCtorEq]
    cases og with
    | none => cases hz
    | some y => exact e7 y rfl
  · rw [hflo, List.length_append]
    show p0 + ((flo E og).length + 1) + tp + 1 ≤ t
    omega
  · rw [hflo, cdl_app, cdl_1, hitc, List.length_append]
    show a0 + ((cdl (flo E og)).length + 1) + 2 * tp ≤ 12 * t
    omega
theorem p_rel_l (r : Nat) (h1 : 1 ≤ r) (h7 : r ≤ 7) : ∀ (tp m1 m2 : Nat) (E : List xCe) (og : Option (xIt × List xIt)) (Sc Sr : xS), EI Sc Sr m s t nk nv wd nb ns ty op kd A K p0 a0 rk0 E og tp w 1 d rec → tp < m1 → tp < m2 →
    ∃ E' og' tp' Sc' Sr', tp' ≤ tp ∧ f_X1_release_0 N m1 (nn r) Sc = some (rV Sc') ∧ f_X12_unwind_0 N m2 (nn 0) (nn (r - 1)) Sr = some (rV Sr') ∧ EI Sc' Sr' m s t nk nv wd nb ns ty op kd A K p0 a0 rk0 E' og' tp' w 1 d rec ∧ (tp' = 0 ∨ rk (w (tp' - 1)) < r) ∧ (∀ i, tp' ≤ i → i < tp → r ≤ rk (w i)) ∧ xfr Sc Sc' ∧ yfr Sr Sr' := by
  intro tp
  induction tp with
  | zero =>
    intro m1 m2 E og Sc Sr h hm hm2
    obtain ⟨m1, rfl⟩ := Nat.exists_eq_succ_of_ne_zero (Nat.ne_of_gt (Nat.zero_lt_of_lt hm))
    obtain ⟨m2, rfl⟩ := Nat.exists_eq_succ_of_ne_zero (Nat.ne_of_gt (Nat.zero_lt_of_lt hm2))
    obtain ⟨w1, w2, w3, w4⟩ := h.2.2.1
    refine ⟨E, og, 0, Sc, Sr, Nat.le_refl _, ?_, ?_, h, Or.inl rfl, fun i _ hi => absurd hi (Nat.not_lt_zero i), xfr_r _, yfr_r _⟩
    · rw [f_X1_release_0.eq_2, w2]; simp (disch := omega) only [nn_add, nn_addl, l_add_nn, nn_sub, nn_subl, nn_m1, nn_mull, nn_t, nn_i, l_t, nn_lt, nn_le, nn_eq, nn_ltl, l_lt_nn, nn_lel, l_le_nn, nn_eql, l_eql, nn_nm1, xin_nn, xin_l, m1_lt, m1_le, m1_p, m1_z, dlt_T, dlt_F, dle_T, dle_F, deq_T, deq_F, sI_c, sI_n, sI_J, sI_E, sJ_c, sJ_n, sJ_I, sJ_E, sE_I, sE_J, sE_E, xcI_i, xcJ_i, xcR_i, xcV_i, xcI_e, xcJ_e, xcR_e, xcV_e, if_true, if_false, ite_true, ite_false, true_and, and_true, false_and, and_false, or_true, true_or, or_false, false_or, not_true_eq_false, not_false_eq_true, eq_self, ne_eq, ↓reduceIte, Nat.reduceEqDiff, Nat.reduceLT, Nat.reduceLeDiff, Nat.reduceAdd, Nat.reduceMul, Nat.reduceSub, Int32.reduceLT, Int32.reduceLE, reduceCtorEq, f_X1_release_55]
    · rw [f_X12_unwind_0.eq_2, w3]; simp (disch := omega) only [nn_add, nn_addl, l_add_nn, nn_sub, nn_subl, nn_m1, nn_mull, nn_t, nn_i, l_t, nn_lt, nn_le, nn_eq, nn_ltl, l_lt_nn, nn_lel, l_le_nn, nn_eql, l_eql, nn_nm1, xin_nn, xin_l, m1_lt, m1_le, m1_p, m1_z, dlt_T, dlt_F, dle_T, dle_F, deq_T, deq_F, sI_c, sI_n, sI_J, sI_E, sJ_c, sJ_n, sJ_I, sJ_E, sE_I, sE_J, sE_E, xcI_i, xcJ_i, xcR_i, xcV_i, xcI_e, xcJ_e, xcR_e, xcV_e, if_true, if_false, ite_true, ite_false, true_and, and_true, false_and, and_false, or_true, true_or, or_false, false_or, not_true_eq_false, not_false_eq_true, eq_self, ne_eq, ↓reduceIte, Nat.reduceEqDiff, Nat.reduceLT, Nat.reduceLeDiff, Nat.reduceAdd, Nat.reduceMul, Nat.reduceSub, Int32.reduceLT, Int32.reduceLE, reduceCtorEq, f_X12_unwind_52]
  | succ tp ih =>
    intro m1 m2 E og Sc Sr h hm hm2
    obtain ⟨m1, rfl⟩ := Nat.exists_eq_succ_of_ne_zero (Nat.ne_of_gt (Nat.zero_lt_of_lt hm))
    obtain ⟨m2, rfl⟩ := Nat.exists_eq_succ_of_ne_zero (Nat.ne_of_gt (Nat.zero_lt_of_lt hm2))
    have ⟨e1, e2, e3, e4, e5, e6, e7, e8, e9, e10, eK⟩ := h
    obtain ⟨w1, w2, w3, w4⟩ := e3
    obtain ⟨hw, c1, c2⟩ := w4 tp (by omega)
    obtain ⟨s1, s2⟩ := sth_pm hw
    have hl := wok_lt hw
    have hk8 := rk_lt (w tp)
    have hmm := e1.1.1
    have htm := e1.2.1
    have x1 := e4.1
    have x2 := e4.2.1
    by_cases hr : rk (w tp) < r
    · refine ⟨E, og, tp + 1, Sc, Sr, Nat.le_refl _, ?_, ?_, h, Or.inr (by rw [Nat.add_sub_cancel]; exact hr), fun i a b => by omega, xfr_r _, yfr_r _⟩
      · rw [f_X1_release_0.eq_2, w2]; simp (disch := omega) only [nn_add, nn_addl, l_add_nn, nn_sub, nn_subl, nn_m1, nn_mull, nn_t, nn_i, l_t, nn_lt, nn_le, nn_eq, nn_ltl, l_lt_nn, nn_lel, l_le_nn, nn_eql, l_eql, nn_nm1, xin_nn, xin_l, m1_lt, m1_le, m1_p, m1_z, dlt_T, dlt_F, dle_T, dle_F, deq_T, deq_F, sI_c, sI_n, sI_J, sI_E, sJ_c, sJ_n, sJ_I, sJ_E, sE_I, sE_J, sE_E, xcI_i, xcJ_i, xcR_i, xcV_i, xcI_e, xcJ_e, xcR_e, xcV_e, if_true, if_false, ite_true, ite_false, true_and, and_true, false_and, and_false, or_true, true_or, or_false, false_or, not_true_eq_false, not_false_eq_true, eq_self, ne_eq, ↓reduceIte, Nat.reduceEqDiff, Nat.reduceLT, Nat.reduceLeDiff, Nat.reduceAdd, Nat.reduceMul, Nat.reduceSub, Int32.reduceLT, Int32.reduceLE, reduceCtorEq, f_X1_release_55, Nat.add_sub_cancel, c1, p_rank]
      · rw [f_X12_unwind_0.eq_2, w3]; simp (disch := omega) only [nn_add, nn_addl, l_add_nn, nn_sub, nn_subl, nn_m1, nn_mull, nn_t, nn_i, l_t, nn_lt, nn_le, nn_eq, nn_ltl, l_lt_nn, nn_lel, l_le_nn, nn_eql, l_eql, nn_nm1, xin_nn, xin_l, m1_lt, m1_le, m1_p, m1_z, dlt_T, dlt_F, dle_T, dle_F, deq_T, deq_F, sI_c, sI_n, sI_J, sI_E, sJ_c, sJ_n, sJ_I, sJ_E, sE_I, sE_J, sE_E, xcI_i, xcJ_i, xcR_i, xcV_i, xcI_e, xcJ_e, xcR_e, xcV_e, if_true, if_false, ite_true, ite_false, true_and, and_true, false_and, and_false, or_true, true_or, or_false, false_or, not_true_eq_false, not_false_eq_true, eq_self, ne_eq, ↓reduceIte, Nat.reduceEqDiff, Nat.reduceLT, Nat.reduceLeDiff, Nat.reduceAdd, Nat.reduceMul, Nat.reduceSub, Int32.reduceLT, Int32.reduceLE, reduceCtorEq, f_X12_unwind_52, Nat.add_sub_cancel, c2, p_strength, s1]
    · obtain ⟨E', og', tp', Sc', Sr', g1, g2, g3, g4, g5, g6, g7, g8⟩ := ih m1 m2 _ _ _ _ (p_pop1 h (by omega)) (by omega) (by omega)
      refine ⟨E', og', tp', Sc', Sr', by omega, ?_, ?_, g4, g5, fun i a b => ?_, xfr_t (xfr_s (xfr_s (xfr_s (xfr_r _) (by omega)) (Or.inr (Or.inr (Or.inr (Or.inr ⟨_, rfl, by omega⟩))))) (by omega)) g7, yfr_t (yfr_s (yfr_s (yfr_s (yfr_r _) (by omega)) (by omega)) (by omega)) g8⟩
      · rw [f_X1_release_0.eq_2, w2]
        simp (disch := omega) only [nn_add, nn_addl, l_add_nn, nn_sub, nn_subl, nn_m1, nn_mull, nn_t, nn_i, l_t, nn_lt, nn_le, nn_eq, nn_ltl, l_lt_nn, nn_lel, l_le_nn, nn_eql, l_eql, nn_nm1, xin_nn, xin_l, m1_lt, m1_le, m1_p, m1_z, dlt_T, dlt_F, dle_T, dle_F, deq_T, deq_F, sI_c, sI_n, sI_J, sI_E, sJ_c, sJ_n, sJ_I, sJ_E, sE_I, sE_J, sE_E, xcI_i, xcJ_i, xcR_i, xcV_i, xcI_e, xcJ_e, xcR_e, xcV_e, if_true, if_false, ite_true, ite_false, true_and, and_true, false_and, and_false, or_true, true_or, or_false, false_or, not_true_eq_false, not_false_eq_true, eq_self, ne_eq, ↓reduceIte, Nat.reduceEqDiff, Nat.reduceLT, Nat.reduceLeDiff, Nat.reduceAdd, Nat.reduceMul, Nat.reduceSub, Int32.reduceLT, Int32.reduceLE, reduceCtorEq, Nat.add_sub_cancel, c1, p_rank, w2, f_X5_addPart, x1]
        exact g2
      · rw [f_X12_unwind_0.eq_2, w3]
        simp (disch := omega) only [nn_add, nn_addl, l_add_nn, nn_sub, nn_subl, nn_m1, nn_mull, nn_t, nn_i, l_t, nn_lt, nn_le, nn_eq, nn_ltl, l_lt_nn, nn_lel, l_le_nn, nn_eql, l_eql, nn_nm1, xin_nn, xin_l, m1_lt, m1_le, m1_p, m1_z, dlt_T, dlt_F, dle_T, dle_F, deq_T, deq_F, sI_c, sI_n, sI_J, sI_E, sJ_c, sJ_n, sJ_I, sJ_E, sE_I, sE_J, sE_E, xcI_i, xcJ_i, xcR_i, xcV_i, xcI_e, xcJ_e, xcR_e, xcV_e, if_true, if_false, ite_true, ite_false, true_and, and_true, false_and, and_false, or_true, true_or, or_false, false_or, not_true_eq_false, not_false_eq_true, eq_self, ne_eq, ↓reduceIte, Nat.reduceEqDiff, Nat.reduceLT, Nat.reduceLeDiff, Nat.reduceAdd, Nat.reduceMul, Nat.reduceSub, Int32.reduceLT, Int32.reduceLE, reduceCtorEq, Nat.add_sub_cancel, c2, p_strength, s1, w3, f_X12_emit, x2]
        exact g3
      · rcases Nat.lt_or_ge i tp with z | z
        · exact g6 i a z
        · rw [show i = tp by omega]; omega
theorem p_release (hN : 1000 < N) (r : Nat) {x y z : Int32} (hx : x = nn r) (hy : y = nn (r - 1)) (hz : z = nn 0) (h1 : 1 ≤ r) (h7 : r ≤ 7) (h : EI Sc Sr m s t nk nv wd nb ns ty op kd A K p0 a0 rk0 E og tp w 1 d rec) :
    ∃ E' og' tp' Sc' Sr', tp' ≤ tp ∧ f_X1_release N x Sc = some (rV Sc') ∧ f_X12_unwind N z y Sr = some (rV Sr') ∧ EI Sc' Sr' m s t nk nv wd nb ns ty op kd A K p0 a0 rk0 E' og' tp' w 1 d rec ∧ (tp' = 0 ∨ rk (w (tp' - 1)) < r) ∧ (∀ i, tp' ≤ i → i < tp → r ≤ rk (w i)) ∧ xfr Sc Sc' ∧ yfr Sr Sr' := by
  subst hx hy hz
  have := h.2.2.1.1
  obtain ⟨E', og', tp', Sc', Sr', g⟩ := p_rel_l (N := N) r h1 h7 tp (N + 1) (N + 1) E og Sc Sr h (by omega) (by omega)
  exact ⟨E', og', tp', Sc', Sr', g⟩
end EX
