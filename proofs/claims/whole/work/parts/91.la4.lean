/-! 91: a program is run -/
section RN
variable {N B : Nat} {Sc Sr Sc' Sr' S0 S : xS}
theorem Rcr_r (S : xS) : Rcr S S := ⟨fun _ _ => rfl, fun _ _ => rfl, rfl⟩
theorem Rrr_r (S : xS) : Rrr S S := ⟨fun _ _ _ => rfl, rfl⟩
theorem p_runs {x : Int32} (hN : 10000000 < N) (hB : B + 20000 < 2000000000) (h : LR B Sc Sr) : CAL 2 (B + 20000) "java/lang/IllegalArgumentException" "java/lang/IllegalStateException" Sc Sr (f_X11_run N x Sc) (f_X12_run N x Sr) := by
  have hm : LR (B + 20000) Sc Sr := LR_m h (by omega)
  obtain ⟨n, nk, nv, wd, ow, sn, ou, ⟨h1, h2, h3, h4, h5, h6, h7, h8⟩, ⟨g1, g2, g3, g4, g5, g6, g7⟩, hk⟩ := h
  unfold f_X11_run f_X12_run
  have bad : CAL 2 (B + 20000) "java/lang/IllegalArgumentException" "java/lang/IllegalStateException" Sc Sr (f_X11_run_12 N Sc) (f_X12_run_13 N x Sr) := by
    refine CAL_1 (v := 0) (by omega) hm rfl ?_
    unfold f_X12_run_13 f_X12_run_29
    rw [if_neg (by decide)]
  by_cases q1 : x < 1
  · rw [if_pos q1, if_pos q1]
    exact bad
  · rw [if_neg q1, if_neg q1]
    by_cases q2 : x ≤ 20000
    · rw [if_pos q2, if_pos q2]
      obtain ⟨k, ek, k1, k2⟩ := i_nn q1 q2 (by decide)
      have z8 : (20000 : Int32).toInt = 20000 := rfl
      have z1 : (1 : Int32).toInt = 1 := rfl
      rw [z8] at k2
      rw [z1] at k1
      subst ek
      rcases hk with ⟨l1, l2⟩ | ⟨l1, l2, ns, np, nu, A, D, hP⟩
      · rw [l1, l2, if_pos rfl, if_pos rfl]
        refine CAL_2 (v := 0) (by omega) hm rfl ?_
        unfold f_X12_run_29
        rw [if_neg (by decide)]
      · rw [l1, l2, if_neg (by decide), if_neg (by decide)]
        generalize ec : sI (sI Sc 409 9 (nn k)) 409 10 0 = Sc0
        generalize er : sI (sI (sI (sI Sr 503 0 0) 503 35 (nn k)) 503 36 0) 503 39 0 = Sr0
        have c0 : ∀ q, ¬ q = 409 → Sc0.1 q = Sc.1 q := fun q hq => by rw [← ec, sI_n hq, sI_n hq]
        have cJ : Sc0.2 = Sc.2 := by rw [← ec]; rfl
        have r0 : ∀ q, ¬ q = 503 → Sr0.1 q = Sr.1 q := fun q hq => by rw [← er, sI_n hq, sI_n hq, sI_n hq, sI_n hq]
        have r3 : ∀ j, ¬ j = 0 → ¬ j = 35 → ¬ j = 36 → ¬ j = 39 → Sr0.1 503 j = Sr.1 503 j := fun j a b c d => by rw [← er]; simp (disch := omega) only [nn_add, nn_addl, l_add_nn, nn_sub, nn_subl, nn_m1, nn_mull, nn_t, nn_i, l_t, nn_lt, nn_le, nn_eq, nn_ltl, l_lt_nn, nn_lel, l_le_nn, nn_eql, l_eql, nn_nm1, xin_nn, xin_l, m1_lt, m1_le, m1_p, m1_z, dlt_T, dlt_F, dle_T, dle_F, deq_T, deq_F, sI_c, sI_n, sI_J, sI_E, sJ_c, sJ_n, sJ_I, sJ_E, sE_I, sE_J, sE_E, xcI_i, xcJ_i, xcR_i, xcV_i, xcI_e, xcJ_e, xcR_e, xcV_e, if_true, if_false, ite_true, ite_false, true_and, and_true, false_and, and_false, or_true, true_or, or_false, false_or, not_true_eq_false, not_false_eq_true, eq_self, ne_eq, ↓reduceIte, Nat.reduceEqDiff, Nat.reduceLT, Nat.reduceLeDiff, Nat.reduceAdd, Nat.reduceMul, Nat.reduceSub, Int32.reduceLT, Int32.reduceLE, reduceCtorEq, a, b, c, d]
        have rJ : Sr0.2 = Sr.2 := by rw [← er]; rfl
        have hsc : ∀ b d κ, scj D ns 0 b d κ → False := fun b d κ z => by
          by_cases e : 0 < ns
          · rw [scj_lt e] at z
            exact ((hP.2.2.2.2.2.2.2.2.2.1 0 e).2.2.2.1.2.2 rfl).2 b d κ z
          · unfold scj scx at z
            rw [if_neg e] at z
            exact absurd z.1 (Nat.not_lt_zero _)
        have hA0 : A 0 = 0 := hP.2.2.2.2.2.2.2.1
        have lq : LQ ns np nu nk nv k (B + 20000) wd A D 0 0 Sc0 Sr0 := by
          refine ⟨ow, sn, ou, PRG_g hP (fun q j hq _ => by rw [c0 q (by omega)]) (r0 518 (by omega)) (r3 25 (by omega) (by omega) (by omega) (by omega)), KDS_x (r_nw_K h3) h3.1 (fun q a b => c0 q (by omega)) (r0 508 (by omega)), RT_m (RT_x g1 (fun q hq => c0 q (by unfold rwC at hq; omega)) (by rw [cJ]) (fun q hq => r0 q (by unfold rwR at hq; omega)) (r3 14 (by omega) (by omega) (by omega) (by omega))) hsc, fun z1 z2 => absurd z2 ((hP.2.2.2.2.2.2.2.2.2.1 0 z1).2.2.2.1.2.2 rfl).1, ?_, by omega, by omega⟩
          refine ⟨by rw [← ec]; simp (disch := omega) only [nn_add, nn_addl, l_add_nn, nn_sub, nn_subl, nn_m1, nn_mull, nn_t, nn_i, l_t, nn_lt, nn_le, nn_eq, nn_ltl, l_lt_nn, nn_lel, l_le_nn, nn_eql, l_eql, nn_nm1, xin_nn, xin_l, m1_lt, m1_le, m1_p, m1_z, dlt_T, dlt_F, dle_T, dle_F, deq_T, deq_F, sI_c, sI_n, sI_J, sI_E, sJ_c, sJ_n, sJ_I, sJ_E, sE_I, sE_J, sE_E, xcI_i, xcJ_i, xcR_i, xcV_i, xcI_e, xcJ_e, xcR_e, xcV_e, if_true, if_false, ite_true, ite_false, true_and, and_true, false_and, and_false, or_true, true_or, or_false, false_or, not_true_eq_false, not_false_eq_true, eq_self, ne_eq, ↓reduceIte, Nat.reduceEqDiff, Nat.reduceLT, Nat.reduceLeDiff, Nat.reduceAdd, Nat.reduceMul, Nat.reduceSub, Int32.reduceLT, Int32.reduceLE, reduceCtorEq], by rw [← er]; simp (disch := omega) only [nn_add, nn_addl, l_add_nn, nn_sub, nn_subl, nn_m1, nn_mull, nn_t, nn_i, l_t, nn_lt, nn_le, nn_eq, nn_ltl, l_lt_nn, nn_lel, l_le_nn, nn_eql, l_eql, nn_nm1, xin_nn, xin_l, m1_lt, m1_le, m1_p, m1_z, dlt_T, dlt_F, dle_T, dle_F, deq_T, deq_F, sI_c, sI_n, sI_J, sI_E, sJ_c, sJ_n, sJ_I, sJ_E, sE_I, sE_J, sE_E, xcI_i, xcJ_i, xcR_i, xcV_i, xcI_e, xcJ_e, xcR_e, xcV_e, if_true, if_false, ite_true, ite_false, true_and, and_true, false_and, and_false, or_true, true_or, or_false, false_or, not_true_eq_false, not_false_eq_true, eq_self, ne_eq, ↓reduceIte, Nat.reduceEqDiff, Nat.reduceLT, Nat.reduceLeDiff, Nat.reduceAdd, Nat.reduceMul, Nat.reduceSub, Int32.reduceLT, Int32.reduceLE, reduceCtorEq], by rw [← ec]; simp (disch := omega) only [nn_add, nn_addl, l_add_nn, nn_sub, nn_subl, nn_m1, nn_mull, nn_t, nn_i, l_t, nn_lt, nn_le, nn_eq, nn_ltl, l_lt_nn, nn_lel, l_le_nn, nn_eql, l_eql, nn_nm1, xin_nn, xin_l, m1_lt, m1_le, m1_p, m1_z, dlt_T, dlt_F, dle_T, dle_F, deq_T, deq_F, sI_c, sI_n, sI_J, sI_E, sJ_c, sJ_n, sJ_I, sJ_E, sE_I, sE_J, sE_E, xcI_i, xcJ_i, xcR_i, xcV_i, xcI_e, xcJ_e, xcR_e, xcV_e, if_true, if_false, ite_true, ite_false, true_and, and_true, false_and, and_false, or_true, true_or, or_false, false_or, not_true_eq_false, not_false_eq_true, eq_self, ne_eq, ↓reduceIte, Nat.reduceEqDiff, Nat.reduceLT, Nat.reduceLeDiff, Nat.reduceAdd, Nat.reduceMul, Nat.reduceSub, Int32.reduceLT, Int32.reduceLE, reduceCtorEq]; rfl, by rw [← er]; simp (disch := omega) only [nn_add, nn_addl, l_add_nn, nn_sub, nn_subl, nn_m1, nn_mull, nn_t, nn_i, l_t, nn_lt, nn_le, nn_eq, nn_ltl, l_lt_nn, nn_lel, l_le_nn, nn_eql, l_eql, nn_nm1, xin_nn, xin_l, m1_lt, m1_le, m1_p, m1_z, dlt_T, dlt_F, dle_T, dle_F, deq_T, deq_F, sI_c, sI_n, sI_J, sI_E, sJ_c, sJ_n, sJ_I, sJ_E, sE_I, sE_J, sE_E, xcI_i, xcJ_i, xcR_i, xcV_i, xcI_e, xcJ_e, xcR_e, xcV_e, if_true, if_false, ite_true, ite_false, true_and, and_true, false_and, and_false, or_true, true_or, or_false, false_or, not_true_eq_false, not_false_eq_true, eq_self, ne_eq, ↓reduceIte, Nat.reduceEqDiff, Nat.reduceLT, Nat.reduceLeDiff, Nat.reduceAdd, Nat.reduceMul, Nat.reduceSub, Int32.reduceLT, Int32.reduceLE, reduceCtorEq]; rfl, by omega, by omega, by rw [← ec]; simp (disch := omega) only [nn_add, nn_addl, l_add_nn, nn_sub, nn_subl, nn_m1, nn_mull, nn_t, nn_i, l_t, nn_lt, nn_le, nn_eq, nn_ltl, l_lt_nn, nn_lel, l_le_nn, nn_eql, l_eql, nn_nm1, xin_nn, xin_l, m1_lt, m1_le, m1_p, m1_z, dlt_T, dlt_F, dle_T, dle_F, deq_T, deq_F, sI_c, sI_n, sI_J, sI_E, sJ_c, sJ_n, sJ_I, sJ_E, sE_I, sE_J, sE_E, xcI_i, xcJ_i, xcR_i, xcV_i, xcI_e, xcJ_e, xcR_e, xcV_e, if_true, if_false, ite_true, ite_false, true_and, and_true, false_and, and_false, or_true, true_or, or_false, false_or, not_true_eq_false, not_false_eq_true, eq_self, ne_eq, ↓reduceIte, Nat.reduceEqDiff, Nat.reduceLT, Nat.reduceLeDiff, Nat.reduceAdd, Nat.reduceMul, Nat.reduceSub, Int32.reduceLT, Int32.reduceLE, reduceCtorEq]; exact g4, by rw [r3 47 (by omega) (by omega) (by omega) (by omega)]; exact g5, by omega, fun j hj => by rw [c0 411 (by omega), r0 532 (by omega)]; exact g6 j hj, by rw [← er]; simp (disch := omega) only [nn_add, nn_addl, l_add_nn, nn_sub, nn_subl, nn_m1, nn_mull, nn_t, nn_i, l_t, nn_lt, nn_le, nn_eq, nn_ltl, l_lt_nn, nn_lel, l_le_nn, nn_eql, l_eql, nn_nm1, xin_nn, xin_l, m1_lt, m1_le, m1_p, m1_z, dlt_T, dlt_F, dle_T, dle_F, deq_T, deq_F, sI_c, sI_n, sI_J, sI_E, sJ_c, sJ_n, sJ_I, sJ_E, sE_I, sE_J, sE_E, xcI_i, xcJ_i, xcR_i, xcV_i, xcI_e, xcJ_e, xcR_e, xcV_e, if_true, if_false, ite_true, ite_false, true_and, and_true, false_and, and_false, or_true, true_or, or_false, false_or, not_true_eq_false, not_false_eq_true, eq_self, ne_eq, ↓reduceIte, Nat.reduceEqDiff, Nat.reduceLT, Nat.reduceLeDiff, Nat.reduceAdd, Nat.reduceMul, Nat.reduceSub, Int32.reduceLT, Int32.reduceLE, reduceCtorEq]; rfl⟩
        obtain ⟨v, S1, S2, p1, p2, p3⟩ := p_run (N := N) (B := B + 20000) (fu := k) hN hB (by omega) lq hA0
        have f1 : Rcr Sc0 S1 := fr_f_X2_goThrough_14 N N 0 0 Sc0 (Rcr_r Sc0) _ p1
        have f2 : Rrr Sr0 S2 := fr_f_X12_run_58 N N 0 Sr0 (Rrr_r Sr0) _ p2
        obtain ⟨ow', sn', ou', sp, e1, e2, e3, e4, e5, e6⟩ := p3
        obtain ⟨m1, m2, m3, m4, m5, m6, m7, m8, m9, m10, m11⟩ := e4
        obtain ⟨a1, a2, a3⟩ := f1
        obtain ⟨b1, b2⟩ := f2
        have hfc : xcI (f_X2_goThrough N (nn k) Sc) (fun v15 S14 => some (.inl (some (.inl v15)), S14)) = some (rI v S1) := by
          have : f_X2_goThrough N (nn k) Sc = some (rI v S1) := by
            unfold f_X2_goThrough
            rw [ec]
            exact p1
          rw [xcI_of this]
        have hfr : f_X12_run_29 N (nn k) 0 Sr = some (rI v S2) := by
          unfold f_X12_run_29
          rw [if_pos rfl, er]
          exact p2
        have c7 : ∀ q, q < 29 → S1.1 q = Sc.1 q := fun q hq => by rw [a1 q (by omega), c0 q (by omega)]
        have d3 : ∀ j, ¬ j = 0 → ¬ j = 14 → ¬ j = 35 → ¬ j = 36 → ¬ j = 39 → ¬ j = 47 → S2.1 503 j = Sr.1 503 j := fun j x1 x2 x3 x4 x5 x6 => by rw [b1 503 j (by omega), r3 j x1 x3 x4 x5]
        have d5 : ∀ q, 504 ≤ q → q ≤ 509 → S2.1 q = Sr.1 q := fun q x1 x2 => by rw [← r0 q (by omega)]; exact funext fun j => b1 q j (by omega)
        refine ⟨_, v, S2, hfc, hfr, Or.inl ⟨S1, rfl, by rw [b1 503 0 (by omega), ← er]; simp (disch := omega) only [nn_add, nn_addl, l_add_nn, nn_sub, nn_subl, nn_m1, nn_mull, nn_t, nn_i, l_t, nn_lt, nn_le, nn_eq, nn_ltl, l_lt_nn, nn_lel, l_le_nn, nn_eql, l_eql, nn_nm1, xin_nn, xin_l, m1_lt, m1_le, m1_p, m1_z, dlt_T, dlt_F, dle_T, dle_F, deq_T, deq_F, sI_c, sI_n, sI_J, sI_E, sJ_c, sJ_n, sJ_I, sJ_E, sE_I, sE_J, sE_E, xcI_i, xcJ_i, xcR_i, xcV_i, xcI_e, xcJ_e, xcR_e, xcV_e, if_true, if_false, ite_true, ite_false, true_and, and_true, false_and, and_false, or_true, true_or, or_false, false_or, not_true_eq_false, not_false_eq_true, eq_self, ne_eq, ↓reduceIte, Nat.reduceEqDiff, Nat.reduceLT, Nat.reduceLeDiff, Nat.reduceAdd, Nat.reduceMul, Nat.reduceSub, Int32.reduceLT, Int32.reduceLE, reduceCtorEq]⟩, ?_, ?_, ?_⟩
        · refine ⟨n, nk, nv, wd, ow', sn', ou', ⟨r_tp_c h1 (by rw [c7 1 (by omega)]) (c7 3 (by omega)) (d3 2 (by omega) (by omega) (by omega) (by omega) (by omega) (by omega)) (d5 504 (by omega) (by omega)), r_vo_c h2 (by rw [a2 2 (by omega), cJ]) (by rw [b2, rJ]), r_nw_d h3 (fun q x y => c7 q (by omega)) (fun q x y => by rw [a2 q (by omega), cJ]) (fun q x y => d5 q (by omega) y) (fun q x y => by rw [b2, rJ]), by rw [c7 7 (by omega)]; exact h4, by rw [d3 3 (by omega) (by omega) (by omega) (by omega) (by omega) (by omega)]; exact h5, by rw [c7 7 (by omega)]; exact h6, by rw [d3 8 (by omega) (by omega) (by omega) (by omega) (by omega) (by omega)]; exact h7, by rw [c7 0 (by omega), d3 22 (by omega) (by omega) (by omega) (by omega) (by omega) (by omega)]; exact h8⟩, ⟨e3, e5, e6, m7, m8, m10, by rw [m3, m4]⟩, Or.inr ⟨by rw [c7 0 (by omega)]; exact l1, by rw [d3 23 (by omega) (by omega) (by omega) (by omega) (by omega) (by omega)]; exact l2, ns, np, nu, A, D, e1⟩⟩
        · exact ⟨fun q hq => by rw [a1 q (by omega), c0 q (by omega)], fun q hq => by rw [a2 q (by omega), cJ], by rw [a3, cJ]; omega⟩
        · exact ⟨fun q hq => by rw [← r0 q (by omega)]; exact funext fun j => b1 q j (by omega), fun q hq => by rw [b2, rJ], by rw [b2, rJ]⟩
    · rw [if_neg q2, if_neg q2]
      exact bad
end RN
