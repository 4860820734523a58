/-! 52: more plain statements -/
section PT
variable {S0 R0 Sc Sr Sc' Sr' : xS} {m t t' nk nv nv' nb ns np0 nu0 nu np rk0 N : Nat} {s wd ty op kd A : Nat → Nat} {Z : Nat → Int32} {L : List Int32} {X : List xX} {U : List (Nat × Nat)} {M : List Nat} {D : Nat → xD}
theorem p_delete (hN : 1000 < N) (h : SI Sc Sr m s t nk nv wd nb ns ty op kd A D np nu) (hs : s t = 3) : SO m s t nk nv wd (f_X6_delete N Sc) (f_X12_statement N Sr) := by
  have ht := h.1.lt (by omega) (by omega)
  obtain ⟨c1, c2, c3, c4, c5, c6, c7, c8⟩ := SI_b h
  obtain ⟨a1, m0⟩ := MI_0 (N := N) (SI_J h) (by omega) 3 (x := 3) rfl
  obtain ⟨e1, m1⟩ := MI_em (N := N) (v := 100) m0 (by simp only [List.length_nil]; omega)
  have m2 := MI_n m1 ht
  have hp := p_pass (N := N) m1.1 ht
  have h20 := m1.1.2.2.2.1
  have xs : xStep (102 + 2 * ns) := ⟨by omega, by omega, by omega⟩
  have cls : f_X6_delete N Sc = xcI (f_X7_takeKind N (sI (sI (sI Sc (102 + 2 * ns) 0 (nn 3)) 97 4 (nn (ns + 1))) 1 7 (nn (t + 1)))) (fun v17 S16 => xcI (f_X6_where N ((sI S16 (102 + 2 * ns) 1 v17).1 (102 + 2 * ns) 1) (sI S16 (102 + 2 * ns) 1 v17)) (fun v20 S19 => xcV (f_X9_take N 34 (sI S19 (102 + 2 * ns) 5 v20)) (fun S21 => some (.inl none, S21)))) := by
    unfold f_X6_delete
    rw [xcR_of a1, xcV_of hp]
    simp only [if_pos xs]
  have ref : f_X12_statement N Sr = xcI (xcI (f_X12_takeKind N (sI (em Sr (A ns + ([] : List Int32).length) 100) 503 20 (nn (t + 1)))) (fun v78 S77 => if 0 ≤ v78 then f_X12_onKind_52 N 2 v78 104 S77 else some (.inl (some (.inl 0)), S77))) (fun v S => if xbo v then some (.inl (some (.inl v)), S) else none) := by
    rw [st_on h.1 2 (by omega) hs]
    unfold f_X12_onKind
    rw [xcV_of e1, h20, nn_addl]
    rfl
  rcases MI_kind hN m2 with ⟨k, k1, k2, k3, k4, k5, m3⟩ | ⟨k4, k5, k6⟩
  · rw [xcI_of k4] at cls
    rw [xcI_of k5, if_pos (by simp (disch := omega) only [nn_add, nn_addl, l_add_nn, nn_sub, nn_subl, nn_m1, nn_mull, nn_t, nn_i, l_t, nn_lt, nn_le, nn_eq, nn_ltl, l_lt_nn, nn_lel, l_le_nn, nn_eql, l_eql, nn_nm1, xin_nn, xin_l, m1_lt, m1_le, m1_p, m1_z, dlt_T, dlt_F, dle_T, dle_F, deq_T, deq_F, sI_c, sI_n, sI_J, sI_E, sJ_c, sJ_n, sJ_I, sJ_E, sE_I, sE_J, sE_E, xcI_i, xcJ_i, xcR_i, xcV_i, xcI_e, xcJ_e, xcR_e, xcV_e, if_true, if_false, ite_true, ite_false, true_and, and_true, false_and, and_false, or_true, true_or, or_false, false_or, not_true_eq_false, not_false_eq_true, eq_self, ne_eq, ↓reduceIte, Nat.reduceEqDiff, Nat.reduceLT, Nat.reduceLeDiff, Nat.reduceAdd, Nat.reduceMul, Nat.reduceSub, Int32.reduceLT, Int32.reduceLE, reduceCtorEq])] at ref
    unfold f_X12_onKind_52 at ref
    have m4 := MI_set m3 1 (nn (k + 1))
    obtain ⟨e2, m5⟩ := MI_em (N := N) (v := 104) m4 (by simp only [List.length_append, List.length_cons, List.length_nil]; omega)
    obtain ⟨e3, m6⟩ := MI_em (N := N) (v := nn k) m5 (by simp only [List.length_append, List.length_cons, List.length_nil]; omega)
    rw [xcV_of e2, xcV_of e3] at ref
    have ek : (sI (sI (sI (sI (sI Sc (102 + 2 * ns) 0 (nn 3)) 97 4 (nn (ns + 1))) 1 7 (nn (t + 1))) 1 7 (nn (t + 1 + 1))) (102 + 2 * ns) 1 (nn (k + 1))).1 (102 + 2 * ns) 1 = nn (k + 1) := by simp (disch := omega) only [nn_add, nn_addl, l_add_nn, nn_sub, nn_subl, nn_m1, nn_mull, nn_t, nn_i, l_t, nn_lt, nn_le, nn_eq, nn_ltl, l_lt_nn, nn_lel, l_le_nn, nn_eql, l_eql, nn_nm1, xin_nn, xin_l, m1_lt, m1_le, m1_p, m1_z, dlt_T, dlt_F, dle_T, dle_F, deq_T, deq_F, sI_c, sI_n, sI_J, sI_E, sJ_c, sJ_n, sJ_I, sJ_E, sE_I, sE_J, sE_E, xcI_i, xcJ_i, xcR_i, xcV_i, xcI_e, xcJ_e, xcR_e, xcV_e, if_true, if_false, ite_true, ite_false, true_and, and_true, false_and, and_false, or_true, true_or, or_false, false_or, not_true_eq_false, not_false_eq_true, eq_self, ne_eq, ↓reduceIte, Nat.reduceEqDiff, Nat.reduceLT, Nat.reduceLeDiff, Nat.reduceAdd, Nat.reduceMul, Nat.reduceSub, Int32.reduceLT, Int32.reduceLE, reduceCtorEq]
    rw [ek] at cls
    rcases MI_where hN m6 (by simp only [List.length_append, List.length_cons, List.length_nil]; omega) k1 with ⟨t2, nv2, o, np2, Sc2, Sr2, q1, q2, q3, q4, q5, q6⟩ | ⟨Sc2, Sr2, q4, q5, q6⟩
    · rw [xcI_of q4] at cls
      rw [xcI_of q5, if_neg (by decide), if_pos rfl] at ref
      obtain ⟨d1, d2, d3, d4⟩ := MI_np q6
      have m7 := MI_set q6 5 (whI o)
      rcases MI_sign (N := N) m7 34 (x := 34) (c := 59) rfl rfl (by decide) (by decide) with ⟨r1, r2, r3, r4, m8⟩ | ⟨r3, r4, r5⟩
      · rw [xcV_of r3] at cls
        rw [xcI_of r4, if_pos (Or.inr rfl), xcI_i, if_pos (Or.inr rfl)] at ref
        refine so_ok (t2 := t2 + 1) (by omega) q2 cls ref (SI_done h m8 (by omega) (by omega) (3, 0, 0, 0, 0, scb3 nb ty kd) rfl (show ¬ tga 3 by unfold tga; decide) rfl (show 3 ≤ 50 by decide) ?_ (by simp) (by omega) (show ¬ 3 = 8 by decide))
        refine Or.inr (Or.inr (Or.inl ⟨rfl, k, o, k1, rfl, ?_, by simp⟩))
        cases o with
        | none => exact rfl
        | some z => exact ⟨rfl, MI_x m8 (x := (k + 1, z.1, z.2)) List.mem_cons_self⟩
      · rw [xcV_oe r3] at cls
        rw [xcI_of r4, if_pos (Or.inl rfl), xcI_i, if_pos (Or.inl rfl)] at ref
        exact Or.inr ⟨_, _, cls, ref, r_bad_v r5 q2⟩
    · rw [xcI_oe q4] at cls
      rw [xcI_of q5, if_pos rfl, xcI_i, if_pos (Or.inl rfl)] at ref
      exact Or.inr ⟨_, _, cls, ref, q6⟩
  · rw [xcI_oe k4] at cls
    rw [xcI_of k5, if_neg (by decide), xcI_i, if_pos (Or.inl rfl)] at ref
    exact Or.inr ⟨_, _, cls, ref, k6⟩
theorem p_let (hN : 1000 < N) (h : SI Sc Sr m s t nk nv wd nb ns ty op kd A D np nu) (hs : s t = 6) : SO m s t nk nv wd (f_X6_let N Sc) (f_X12_statement N Sr) := by
  have ht := h.1.lt (by omega) (by omega)
  obtain ⟨c1, c2, c3, c4, c5, c6, c7, c8⟩ := SI_b h
  obtain ⟨a1, m0⟩ := MI_0 (N := N) (SI_J h) (by omega) 6 (x := 6) rfl
  obtain ⟨e1, m1⟩ := MI_em (N := N) (v := 100) m0 (by simp only [List.length_nil]; omega)
  have m2 := MI_n m1 ht
  have hp := p_pass (N := N) m1.1 ht
  have h20 := m1.1.2.2.2.1
  have xs : xStep (102 + 2 * ns) := ⟨by omega, by omega, by omega⟩
  have hP := m2.1
  have hl := s_le hP
  have b2 := p_tok hP
  have b9 := tkr_lt (s (t + 1))
  have cls : f_X6_let N Sc = xcI (f_X7_takeVariable N (sI (sI (sI Sc (102 + 2 * ns) 0 (nn 6)) 97 4 (nn (ns + 1))) 1 7 (nn (t + 1)))) (fun v19 S18 => xcV (f_X9_take N 21 (sI S18 (102 + 2 * ns) 4 v19)) (fun S21 => xcI (f_X1_read N 0 S21) (fun v24 S23 => xcV (f_X9_take N 34 (sI S23 (102 + 2 * ns) 6 v24)) (fun S25 => some (.inl none, S25))))) := by
    unfold f_X6_let
    rw [xcR_of a1, xcV_of hp]
    simp only [if_pos xs]
  have e514 : (em Sr (A ns + ([] : List Int32).length) 100).1 514 (t + 1) = nn (tkr (s (t + 1))) := by rw [← b2]; simp (disch := omega) only [nn_add, nn_addl, l_add_nn, nn_sub, nn_subl, nn_m1, nn_mull, nn_t, nn_i, l_t, nn_lt, nn_le, nn_eq, nn_ltl, l_lt_nn, nn_lel, l_le_nn, nn_eql, l_eql, nn_nm1, xin_nn, xin_l, m1_lt, m1_le, m1_p, m1_z, dlt_T, dlt_F, dle_T, dle_F, deq_T, deq_F, sI_c, sI_n, sI_J, sI_E, sJ_c, sJ_n, sJ_I, sJ_E, sE_I, sE_J, sE_E, xcI_i, xcJ_i, xcR_i, xcV_i, xcI_e, xcJ_e, xcR_e, xcV_e, if_true, if_false, ite_true, ite_false, true_and, and_true, false_and, and_false, or_true, true_or, or_false, false_or, not_true_eq_false, not_false_eq_true, eq_self, ne_eq, ↓reduceIte, Nat.reduceEqDiff, Nat.reduceLT, Nat.reduceLeDiff, Nat.reduceAdd, Nat.reduceMul, Nat.reduceSub, Int32.reduceLT, Int32.reduceLE, reduceCtorEq]
  have eJ : (sI (em Sr (A ns + ([] : List Int32).length) 100) 503 20 (nn (t + 1))).2.1 = (em Sr (A ns + ([] : List Int32).length) 100).2.1 := rfl
  have ref : f_X12_statement N Sr = xcI (if nn (tkr (s (t + 1))) = 1 then xcI (f_X12_kindOf N ((sI (em Sr (A ns + ([] : List Int32).length) 100) 503 20 (nn (t + 1))).2.1 516 (t + 1)) (sI (em Sr (A ns + ([] : List Int32).length) 100) 503 20 (nn (t + 1)))) (fun v77 S76 => if v77 < 0 then xcI (f_X12_takeVariable N S76) (fun v80 S79 => if v80 < 0 then f_X12_letOrPrint_74 N S79 else xcI (f_X12_sign N 61 S79) (fun v83 S82 => if v83 = 0 then f_X12_letOrPrint_74 N S82 else f_X12_letOrPrint_76 N 1 v80 S82)) else f_X12_letOrPrint_51 N S76) else f_X12_letOrPrint_51 N (sI (em Sr (A ns + ([] : List Int32).length) 100) 503 20 (nn (t + 1)))) (fun v S => if xbo v then some (.inl (some (.inl v)), S) else none) := by
    rw [st_lp h.1 1 (Or.inr rfl) hs]
    unfold f_X12_letOrPrint
    rw [xcV_of e1, if_neg (by decide), h20, nn_addl, if_pos ((xin_nn (by omega)).mpr (by omega)), nn_t (by omega), e514, eJ]
    rfl
  have bad : f_X7_takeVariable N (sI (sI (sI Sc (102 + 2 * ns) 0 (nn 6)) 97 4 (nn (ns + 1))) 1 7 (nn (t + 1))) = some (rA (sE (sI (sI (sI Sc (102 + 2 * ns) 0 (nn 6)) 97 4 (nn (ns + 1))) 1 7 (nn (t + 1))))) → f_X12_statement N Sr = xcI (f_X12_letOrPrint_51 N (sI (em Sr (A ns + ([] : List Int32).length) 100) 503 20 (nn (t + 1)))) (fun v S => if xbo v then some (.inl (some (.inl v)), S) else none) → SO m s t nk nv wd (f_X6_let N Sc) (f_X12_statement N Sr) := by
    intro q1 q2
    rw [xcI_oe q1] at cls
    unfold f_X12_letOrPrint_51 at q2
    rw [xcI_of (p_wrong hP), if_pos (Or.inl rfl), xcI_i, if_pos (Or.inl rfl)] at q2
    exact Or.inr ⟨_, _, cls, q2, p_bad hP⟩
  by_cases h4 : s (t + 1) = 40
  · rw [if_pos (by rw [h4]; rfl)] at ref
    have hR := p_nameR hP h4
    have hz := NmR_nz hR
    rcases p_kind (N := N) (by omega) hP.2.2.2.2.2.1.nm hP.2.2.2.2.2.2.1 hP.2.2.2.2.2.2.2.1 hR with ⟨k, hk, k1, k2⟩ | ⟨k1, k2⟩
    · refine bad ?_ ?_
      · unfold f_X7_takeVariable
        rw [p_name1 hP h4, xcJ_i, if_neg (fun z => hz ((lg_cmp_eq _ _).mp z)), xcI_of k1, if_neg (by simp (disch := omega) only [nn_add, nn_addl, l_add_nn, nn_sub, nn_subl, nn_m1, nn_mull, nn_t, nn_i, l_t, nn_lt, nn_le, nn_eq, nn_ltl, l_lt_nn, nn_lel, l_le_nn, nn_eql, l_eql, nn_nm1, xin_nn, xin_l, m1_lt, m1_le, m1_p, m1_z, dlt_T, dlt_F, dle_T, dle_F, deq_T, deq_F, sI_c, sI_n, sI_J, sI_E, sJ_c, sJ_n, sJ_I, sJ_E, sE_I, sE_J, sE_E, xcI_i, xcJ_i, xcR_i, xcV_i, xcI_e, xcJ_e, xcR_e, xcV_e, if_true, if_false, ite_true, ite_false, true_and, and_true, false_and, and_false, or_true, true_or, or_false, false_or, not_true_eq_false, not_false_eq_true, eq_self, ne_eq, ↓reduceIte, Nat.reduceEqDiff, Nat.reduceLT, Nat.reduceLeDiff, Nat.reduceAdd, Nat.reduceMul, Nat.reduceSub, Int32.reduceLT, Int32.reduceLE, reduceCtorEq])]
        rfl
      · rw [ref, xcI_of k2, if_neg (by simp (disch := omega) only [nn_add, nn_addl, l_add_nn, nn_sub, nn_subl, nn_m1, nn_mull, nn_t, nn_i, l_t, nn_lt, nn_le, nn_eq, nn_ltl, l_lt_nn, nn_lel, l_le_nn, nn_eql, l_eql, nn_nm1, xin_nn, xin_l, m1_lt, m1_le, m1_p, m1_z, dlt_T, dlt_F, dle_T, dle_F, deq_T, deq_F, sI_c, sI_n, sI_J, sI_E, sJ_c, sJ_n, sJ_I, sJ_E, sE_I, sE_J, sE_E, xcI_i, xcJ_i, xcR_i, xcV_i, xcI_e, xcJ_e, xcR_e, xcV_e, if_true, if_false, ite_true, ite_false, true_and, and_true, false_and, and_false, or_true, true_or, or_false, false_or, not_true_eq_false, not_false_eq_true, eq_self, ne_eq, ↓reduceIte, Nat.reduceEqDiff, Nat.reduceLT, Nat.reduceLeDiff, Nat.reduceAdd, Nat.reduceMul, Nat.reduceSub, Int32.reduceLT, Int32.reduceLE, reduceCtorEq])]
    · rw [xcI_of k2, if_pos (by decide)] at ref
      rcases p_takeVar (N := N) (by omega) hP h4 k1 with ⟨v, nv2, Sc1, Sr1, v1, v2, v3, v4, v5, v6, v7⟩ | ⟨v3, v4⟩
      · have n20 := v5.2.2.2.2.2.1.2.1
        have m3 := MI_c m2 v5 v6 v7 (by omega)
        have m4 := MI_set m3 4 (nn v)
        rw [xcI_of v3] at cls
        rw [xcI_of v4, if_neg (by simp (disch := omega) only [nn_add, nn_addl, l_add_nn, nn_sub, nn_subl, nn_m1, nn_mull, nn_t, nn_i, l_t, nn_lt, nn_le, nn_eq, nn_ltl, l_lt_nn, nn_lel, l_le_nn, nn_eql, l_eql, nn_nm1, xin_nn, xin_l, m1_lt, m1_le, m1_p, m1_z, dlt_T, dlt_F, dle_T, dle_F, deq_T, deq_F, sI_c, sI_n, sI_J, sI_E, sJ_c, sJ_n, sJ_I, sJ_E, sE_I, sE_J, sE_E, xcI_i, xcJ_i, xcR_i, xcV_i, xcI_e, xcJ_e, xcR_e, xcV_e, if_true, if_false, ite_true, ite_false, true_and, and_true, false_and, and_false, or_true, true_or, or_false, false_or, not_true_eq_false, not_false_eq_true, eq_self, ne_eq, ↓reduceIte, Nat.reduceEqDiff, Nat.reduceLT, Nat.reduceLeDiff, Nat.reduceAdd, Nat.reduceMul, Nat.reduceSub, Int32.reduceLT, Int32.reduceLE, reduceCtorEq])] at ref
        rcases MI_sign (N := N) m4 21 (x := 21) (c := 61) rfl rfl (by decide) (by decide) with ⟨r1, r2, r3, r4, m5⟩ | ⟨r3, r4, r5⟩
        · rw [xcV_of r3] at cls
          rw [xcI_of r4, if_neg (by decide)] at ref
          unfold f_X12_letOrPrint_76 at ref
          rcases MI_inl hN m5 (by omega) (by simp only [List.length_append, List.length_cons, List.length_nil]; omega) with ⟨t2, nv3, E, np2, Sc2, Sr2, q1, q2, q3, q4, q5, q6⟩ | ⟨Sc2, Sr2, q4, q5, q6⟩
          · rw [xcI_of q4] at cls
            rw [xcI_of q5, if_neg (by decide), if_neg (by decide)] at ref
            obtain ⟨d1, d2, d3, d4⟩ := MI_np q6
            have m6 := MI_set q6 6 (nn np)
            obtain ⟨e2, m7⟩ := MI_em (N := N) (v := 101) m6 (by omega)
            obtain ⟨e3, m8⟩ := MI_em (N := N) (v := nn v) m7 (by rw [List.length_append, List.length_singleton]; omega)
            unfold f_X12_letOrPrint_97 at ref
            rw [xcV_of e2, xcV_of e3] at ref
            rcases MI_sign (N := N) m8 34 (x := 34) (c := 59) rfl rfl (by decide) (by decide) with ⟨s1, s2, s3, s4, m9⟩ | ⟨s3, s4, s5⟩
            · rw [xcV_of s3] at cls
              rw [xcI_of s4, if_pos (Or.inr rfl), xcI_i, if_pos (Or.inr rfl)] at ref
              refine so_ok (t2 := t2 + 1) (by omega) (by omega) cls ref (SI_done h m9 (by omega) (by omega) (6, 0, 0, 0, 0, scb3 nb ty kd) rfl (show ¬ tga 6 by unfold tga; decide) rfl (show 6 ≤ 50 by decide) ?_ (by simp) ?_ (show ¬ 6 = 8 by decide))
              · exact Or.inr (Or.inr (Or.inr (Or.inr (Or.inl ⟨rfl, v, np, E, by omega, by omega, rfl, rfl, MI_x m9 (x := (0, np, E)) List.mem_cons_self, by simp⟩))))
              · simp only [List.length_append, List.length_cons, List.length_nil] at q3 ⊢
                omega
            · rw [xcV_oe s3] at cls
              rw [xcI_of s4, if_pos (Or.inl rfl), xcI_i, if_pos (Or.inl rfl)] at ref
              exact Or.inr ⟨_, _, cls, ref, r_bad_v s5 (by omega)⟩
          · rw [xcI_oe q4] at cls
            rw [xcI_of q5, if_pos rfl, xcI_i, if_pos (Or.inl rfl)] at ref
            exact Or.inr ⟨_, _, cls, ref, r_bad_v q6 v2⟩
        · rw [xcV_oe r3] at cls
          rw [xcI_of r4, if_pos rfl, f_X12_letOrPrint_74, xcI_i, if_pos (Or.inl rfl)] at ref
          exact Or.inr ⟨_, _, cls, ref, r_bad_v r5 v2⟩
      · rw [xcI_oe v3] at cls
        rw [xcI_of v4, if_pos (by decide), f_X12_letOrPrint_74, xcI_i, if_pos (Or.inl rfl)] at ref
        exact Or.inr ⟨_, _, cls, ref, p_bad hP⟩
  · have n1 : ¬ tkr (s (t + 1)) = 1 := fun z => h4 ((tkr_1 hl).mp z)
    refine bad ?_ ?_
    · unfold f_X7_takeVariable
      rw [p_name0 hP h4]
      simp (disch := omega) only [nn_add, nn_addl, l_add_nn, nn_sub, nn_subl, nn_m1, nn_mull, nn_t, nn_i, l_t, nn_lt, nn_le, nn_eq, nn_ltl, l_lt_nn, nn_lel, l_le_nn, nn_eql, l_eql, nn_nm1, xin_nn, xin_l, m1_lt, m1_le, m1_p, m1_z, dlt_T, dlt_F, dle_T, dle_F, deq_T, deq_F, sI_c, sI_n, sI_J, sI_E, sJ_c, sJ_n, sJ_I, sJ_E, sE_I, sE_J, sE_E, xcI_i, xcJ_i, xcR_i, xcV_i, xcI_e, xcJ_e, xcR_e, xcV_e, if_true, if_false, ite_true, ite_false, true_and, and_true, false_and, and_false, or_true, true_or, or_false, false_or, not_true_eq_false, not_false_eq_true, eq_self, ne_eq, ↓reduceIte, Nat.reduceEqDiff, Nat.reduceLT, Nat.reduceLeDiff, Nat.reduceAdd, Nat.reduceMul, Nat.reduceSub, Int32.reduceLT, Int32.reduceLE, reduceCtorEq, lg_cmp_eq, f_X7_takeVariable_25]
    · rw [ref, if_neg (by simp (disch := omega) only [nn_add, nn_addl, l_add_nn, nn_sub, nn_subl, nn_m1, nn_mull, nn_t, nn_i, l_t, nn_lt, nn_le, nn_eq, nn_ltl, l_lt_nn, nn_lel, l_le_nn, nn_eql, l_eql, nn_nm1, xin_nn, xin_l, m1_lt, m1_le, m1_p, m1_z, dlt_T, dlt_F, dle_T, dle_F, deq_T, deq_F, sI_c, sI_n, sI_J, sI_E, sJ_c, sJ_n, sJ_I, sJ_E, sE_I, sE_J, sE_E, xcI_i, xcJ_i, xcR_i, xcV_i, xcI_e, xcJ_e, xcR_e, xcV_e, if_true, if_false, ite_true, ite_false, true_and, and_true, false_and, and_false, or_true, true_or, or_false, false_or, not_true_eq_false, not_false_eq_true, eq_self, ne_eq, ↓reduceIte, Nat.reduceEqDiff, Nat.reduceLT, Nat.reduceLeDiff, Nat.reduceAdd, Nat.reduceMul, Nat.reduceSub, Int32.reduceLT, Int32.reduceLE, reduceCtorEq])]
/-- a cursor's name at the head of what changes or removes its record -/
theorem MI_cur (hN : 1000 < N) (h : MI S0 R0 Sc Sr m s t nk nv wd nb ns ty op kd A np0 nu0 np Z L X U M) :
    (∃ k i, k < nk ∧ t < m ∧ scb3 nb ty kd i (lvl ty i) k ∧ f_X7_cursor N Sc = some (rI (nn i) Sc) ∧ f_X7_takeKind N (sI Sc (102 + 2 * ns) 3 (nn i)) = some (rI (nn (k + 1)) (sI (sI Sc (102 + 2 * ns) 3 (nn i)) 1 7 (nn (t + 1)))) ∧ (∀ x1, f_X12_cursor_20 N x1 Sr = f_X12_cursor_64 N x1 (nn k) (nn (lvl ty i)) Sr)) ∨ (f_X7_cursor N Sc = some (rA (sE Sc)) ∧ (∀ x1, f_X12_cursor_20 N x1 Sr = some (rI 0 (badR Sr s t)))) := by
  have hP := h.1
  have hB := h.2.1
  have hl := s_le hP
  have b2 := p_tok hP
  have b9 := tkr_lt (s t)
  have h20 := hP.2.2.2.1
  obtain ⟨d1, d2, d3, d4⟩ := MI_np h
  have n7 := hP.2.2.2.2.2.1.1
  have hbad : ∀ x1 x2, f_X12_cursor_64 N x1 x2 (-1) Sr = some (rI 0 (badR Sr s t)) := fun x1 x2 => by
    unfold f_X12_cursor_64
    rw [if_neg (by decide), xcI_of (p_wrong hP), if_pos (Or.inl rfl)]
  by_cases h4 : s t = 40
  · rw [h4, show tkr 40 = 1 from rfl] at b2
    have ht := hP.lt (by omega) (by omega)
    rcases p_kind (N := N) (by omega) hP.2.2.2.2.2.1.nm hP.2.2.2.2.2.2.1 hP.2.2.2.2.2.2.2.1 (p_nameR hP h4) with ⟨k, hk, k1, k2⟩ | ⟨k1, k2⟩
    · have hc := p_cursor (N := N) (by omega) hP hB h4 hk k1
      have hlv := p_levelOf (N := N) (by omega) hB n7 (k := k) (by omega)
      have hr : ∀ x1, f_X12_cursor_20 N x1 Sr = f_X12_cursor_64 N x1 (nn k) (lvI ty (lst ty kd k nb)) Sr := fun x1 => by
        unfold f_X12_cursor_20
        rw [h20, if_pos ((xin_nn (by omega)).mpr (by omega)), nn_t (by omega), b2, if_pos (show nn 1 = 1 from rfl), xcI_of k2]
        unfold f_X12_cursor_50
        rw [if_pos (by simp (disch := omega) only [nn_add, nn_addl, l_add_nn, nn_sub, nn_subl, nn_m1, nn_mull, nn_t, nn_i, l_t, nn_lt, nn_le, nn_eq, nn_ltl, l_lt_nn, nn_lel, l_le_nn, nn_eql, l_eql, nn_nm1, xin_nn, xin_l, m1_lt, m1_le, m1_p, m1_z, dlt_T, dlt_F, dle_T, dle_F, deq_T, deq_F, sI_c, sI_n, sI_J, sI_E, sJ_c, sJ_n, sJ_I, sJ_E, sE_I, sE_J, sE_E, xcI_i, xcJ_i, xcR_i, xcV_i, xcI_e, xcJ_e, xcR_e, xcV_e, if_true, if_false, ite_true, ite_false, true_and, and_true, false_and, and_false, or_true, true_or, or_false, false_or, not_true_eq_false, not_false_eq_true, eq_self, ne_eq, ↓reduceIte, Nat.reduceEqDiff, Nat.reduceLT, Nat.reduceLeDiff, Nat.reduceAdd, Nat.reduceMul, Nat.reduceSub, Int32.reduceLT, Int32.reduceLE, reduceCtorEq]), xcI_of hlv]
      cases hL : lst ty kd k nb with
      | none =>
        rw [hL] at hc hr
        exact Or.inr ⟨hc, fun x1 => by rw [hr]; exact hbad x1 _⟩
      | some i =>
        rw [hL] at hc hr
        obtain ⟨l1, l2, l3⟩ := lst_s hL
        have m1 := MI_set h 3 (nn i)
        have k4 := kind_same (N := N) (by omega) m1.1.2.2.2.2.2.1.nm m1.1.2.2.2.2.2.2.1 hP.2.2.2.2.2.2.2.1 (p_nameR m1.1 h4) hk n7 k2
        refine Or.inl ⟨k, i, hk, ht, ⟨l1, l2, rfl, l3.symm⟩, hc, ?_, hr⟩
        unfold f_X7_takeKind
        rw [p_name1 m1.1 h4, xcJ_i, xcI_of k4, if_neg (by simp (disch := omega) only [nn_add, nn_addl, l_add_nn, nn_sub, nn_subl, nn_m1, nn_mull, nn_t, nn_i, l_t, nn_lt, nn_le, nn_eq, nn_ltl, l_lt_nn, nn_lel, l_le_nn, nn_eql, l_eql, nn_nm1, xin_nn, xin_l, m1_lt, m1_le, m1_p, m1_z, dlt_T, dlt_F, dle_T, dle_F, deq_T, deq_F, sI_c, sI_n, sI_J, sI_E, sJ_c, sJ_n, sJ_I, sJ_E, sE_I, sE_J, sE_E, xcI_i, xcJ_i, xcR_i, xcV_i, xcI_e, xcJ_e, xcR_e, xcV_e, if_true, if_false, ite_true, ite_false, true_and, and_true, false_and, and_false, or_true, true_or, or_false, false_or, not_true_eq_false, not_false_eq_true, eq_self, ne_eq, ↓reduceIte, Nat.reduceEqDiff, Nat.reduceLT, Nat.reduceLeDiff, Nat.reduceAdd, Nat.reduceMul, Nat.reduceSub, Int32.reduceLT, Int32.reduceLE, reduceCtorEq]), xcV_of (p_pass m1.1 ht)]
    · refine Or.inr ⟨p_cursor0 (by omega) hP hB (Or.inr k1), fun x1 => ?_⟩
      unfold f_X12_cursor_20
      rw [h20, if_pos ((xin_nn (by omega)).mpr (by omega)), nn_t (by omega), b2, if_pos (show nn 1 = 1 from rfl), xcI_of k2]
      unfold f_X12_cursor_50
      rw [if_neg (by decide)]
      exact hbad x1 _
  · have n1 : ¬ tkr (s t) = 1 := fun z => h4 ((tkr_1 hl).mp z)
    refine Or.inr ⟨p_cursor0 (by omega) hP hB (Or.inl h4), fun x1 => ?_⟩
    unfold f_X12_cursor_20
    rw [h20, if_pos ((xin_nn (by omega)).mpr (by omega)), nn_t (by omega), b2, if_neg (by simp (disch := omega) only [nn_add, nn_addl, l_add_nn, nn_sub, nn_subl, nn_m1, nn_mull, nn_t, nn_i, l_t, nn_lt, nn_le, nn_eq, nn_ltl, l_lt_nn, nn_lel, l_le_nn, nn_eql, l_eql, nn_nm1, xin_nn, xin_l, m1_lt, m1_le, m1_p, m1_z, dlt_T, dlt_F, dle_T, dle_F, deq_T, deq_F, sI_c, sI_n, sI_J, sI_E, sJ_c, sJ_n, sJ_I, sJ_E, sE_I, sE_J, sE_E, xcI_i, xcJ_i, xcR_i, xcV_i, xcI_e, xcJ_e, xcR_e, xcV_e, if_true, if_false, ite_true, ite_false, true_and, and_true, false_and, and_false, or_true, true_or, or_false, false_or, not_true_eq_false, not_false_eq_true, eq_self, ne_eq, ↓reduceIte, Nat.reduceEqDiff, Nat.reduceLT, Nat.reduceLeDiff, Nat.reduceAdd, Nat.reduceMul, Nat.reduceSub, Int32.reduceLT, Int32.reduceLE, reduceCtorEq])]
    unfold f_X12_cursor_50
    rw [if_neg (by decide)]
    exact hbad x1 _
theorem p_remove (hN : 1000 < N) (h : SI Sc Sr m s t nk nv wd nb ns ty op kd A D np nu) (hs : s t = 13) : SO m s t nk nv wd (f_X6_remove N Sc) (f_X12_statement N Sr) := by
  have ht := h.1.lt (by omega) (by omega)
  obtain ⟨c1, c2, c3, c4, c5, c6, c7, c8⟩ := SI_b h
  obtain ⟨a1, m0⟩ := MI_0 (N := N) (SI_J h) (by omega) 13 (x := 13) rfl
  obtain ⟨e1, m1⟩ := MI_em (N := N) (v := 100) m0 (by simp only [List.length_nil]; omega)
  have m2 := MI_n m1 ht
  have hp := p_pass (N := N) m1.1 ht
  have h20 := m1.1.2.2.2.1
  have xs : xStep (102 + 2 * ns) := ⟨by omega, by omega, by omega⟩
  have cls : f_X6_remove N Sc = xcI (f_X7_cursor N (sI (sI (sI Sc (102 + 2 * ns) 0 (nn 13)) 97 4 (nn (ns + 1))) 1 7 (nn (t + 1)))) (fun v17 S16 => xcI (f_X7_takeKind N (sI S16 (102 + 2 * ns) 3 v17)) (fun v20 S19 => xcV (f_X9_take N 34 (sI S19 (102 + 2 * ns) 1 v20)) (fun S21 => some (.inl none, S21)))) := by
    unfold f_X6_remove
    rw [xcR_of a1, xcV_of hp]
    simp only [if_pos xs]
  have ref : f_X12_statement N Sr = xcI (f_X12_cursor_20 N 1 (sI (em Sr (A ns + ([] : List Int32).length) 100) 503 20 (nn (t + 1)))) (fun v S => if xbo v then some (.inl (some (.inl v)), S) else none) := by
    rw [st_rem h.1 hs]
    unfold f_X12_cursor
    rw [xcV_of e1, if_neg (by decide), h20, nn_addl]
  rcases MI_cur hN m2 with ⟨k, i, k1, k2, k3, k4, k5, k6⟩ | ⟨k4, k6⟩
  · have m3 := MI_set m2 3 (nn i)
    have m4 := MI_n m3 k2
    have m5 := MI_set m4 1 (nn (k + 1))
    have h20b := m2.1.2.2.2.1
    obtain ⟨e2, m6⟩ := MI_em (N := N) (v := 109) m5 (by simp only [List.length_append, List.length_cons, List.length_nil]; omega)
    obtain ⟨e3, m7⟩ := MI_em (N := N) (v := nn (lvl ty i)) m6 (by simp only [List.length_append, List.length_cons, List.length_nil]; omega)
    obtain ⟨e4, m8⟩ := MI_em (N := N) (v := nn k) m7 (by simp only [List.length_append, List.length_cons, List.length_nil]; omega)
    have hlv := lvl_le ty i
    have hi := k3.1
    rw [xcI_of k4, xcI_of k5] at cls
    rw [k6] at ref
    unfold f_X12_cursor_64 at ref
    rw [if_pos (by simp (disch := omega) only [nn_add, nn_addl, l_add_nn, nn_sub, nn_subl, nn_m1, nn_mull, nn_t, nn_i, l_t, nn_lt, nn_le, nn_eq, nn_ltl, l_lt_nn, nn_lel, l_le_nn, nn_eql, l_eql, nn_nm1, xin_nn, xin_l, m1_lt, m1_le, m1_p, m1_z, dlt_T, dlt_F, dle_T, dle_F, deq_T, deq_F, sI_c, sI_n, sI_J, sI_E, sJ_c, sJ_n, sJ_I, sJ_E, sE_I, sE_J, sE_E, xcI_i, xcJ_i, xcR_i, xcV_i, xcI_e, xcJ_e, xcR_e, xcV_e, if_true, if_false, ite_true, ite_false, true_and, and_true, false_and, and_false, or_true, true_or, or_false, false_or, not_true_eq_false, not_false_eq_true, eq_self, ne_eq, ↓reduceIte, Nat.reduceEqDiff, Nat.reduceLT, Nat.reduceLeDiff, Nat.reduceAdd, Nat.reduceMul, Nat.reduceSub, Int32.reduceLT, Int32.reduceLE, reduceCtorEq]), if_neg (by decide), h20b, nn_addl, xcV_of e2, xcV_of e3, xcV_of e4] at ref
    rcases MI_sign (N := N) m8 34 (x := 34) (c := 59) rfl rfl (by decide) (by decide) with ⟨s1, s2, s3, s4, m9⟩ | ⟨s3, s4, s5⟩
    · rw [xcV_of s3] at cls
      rw [xcI_of s4, if_pos (Or.inr rfl), xcI_i, if_pos (Or.inr rfl)] at ref
      refine so_ok (t2 := t + 1 + 1 + 1) (by omega) (Nat.le_refl _) cls ref (SI_done h m9 (by omega) (by omega) (13, 0, 0, i, lvl ty i, scb3 nb ty kd) rfl (show ¬ tga 13 by unfold tga; decide) rfl (show 13 ≤ 50 by decide) ?_ (by simp) ?_ (show ¬ 13 = 8 by decide))
      · exact Or.inr (Or.inr (Or.inr (Or.inr (Or.inr (Or.inr (Or.inr (Or.inr (Or.inr (Or.inr (Or.inl ⟨rfl, k, k1, rfl, rfl, k3, by simp⟩))))))))))
      · simp only [List.length_append, List.length_cons, List.length_nil]
        omega
    · rw [xcV_oe s3] at cls
      rw [xcI_of s4, if_pos (Or.inl rfl), xcI_i, if_pos (Or.inl rfl)] at ref
      exact Or.inr ⟨_, _, cls, ref, s5⟩
  · rw [xcI_oe k4] at cls
    rw [k6, xcI_i, if_pos (Or.inl rfl)] at ref
    exact Or.inr ⟨_, _, cls, ref, p_bad m2.1⟩
theorem p_change (hN : 1000 < N) (h : SI Sc Sr m s t nk nv wd nb ns ty op kd A D np nu) (hs : s t = 40) : SO m s t nk nv wd (f_X6_change N Sc) (f_X12_statement N Sr) := by
  have ht := h.1.lt (by omega) (by omega)
  obtain ⟨c1, c2, c3, c4, c5, c6, c7, c8⟩ := SI_b h
  obtain ⟨a1, m0⟩ := MI_0 (N := N) (SI_J h) (by omega) 50 (x := 50) rfl
  obtain ⟨e1, m2⟩ := MI_em (N := N) (v := 100) m0 (by simp only [List.length_nil]; omega)
  have xs : xStep (102 + 2 * ns) := ⟨by omega, by omega, by omega⟩
  have cls : f_X6_change N Sc = xcI (f_X7_cursor N (sI (sI Sc (102 + 2 * ns) 0 (nn 50)) 97 4 (nn (ns + 1)))) (fun v21 S20 => xcI (f_X7_takeKind N (sI S20 (102 + 2 * ns) 3 v21)) (fun v24 S23 => xcV (f_X9_take N 36 (sI S23 (102 + 2 * ns) 1 v24)) (fun S25 => xcI (f_X7_takeField N (S25.1 (102 + 2 * ns) 1) S25) (fun v28 S27 => xcV (f_X9_take N 21 (sI S27 (102 + 2 * ns) 2 v28)) (fun S29 => xcI (f_X1_read N 0 S29) (fun v32 S31 => xcV (f_X9_take N 34 (sI S31 (102 + 2 * ns) 6 v32)) (fun S33 => some (.inl none, S33)))))))) := by
    unfold f_X6_change
    rw [xcR_of a1]
    simp only [if_pos xs]
  have ref : f_X12_statement N Sr = xcI (f_X12_cursor_20 N 0 (em Sr (A ns + ([] : List Int32).length) 100)) (fun v S => if xbo v then some (.inl (some (.inl v)), S) else none) := by
    rw [st_chg h.1 hs]
    unfold f_X12_cursor
    rw [xcV_of e1, if_pos rfl]
  rcases MI_cur hN m2 with ⟨k, i, k1, k2, k3, k4, k5, k6⟩ | ⟨k4, k6⟩
  · have m3 := MI_set m2 3 (nn i)
    have m4 := MI_n m3 k2
    have m5 := MI_set m4 1 (nn (k + 1))
    have h20b := m2.1.2.2.2.1
    have hlv := lvl_le ty i
    have hi := k3.1
    rw [xcI_of k4, xcI_of k5] at cls
    rw [k6] at ref
    unfold f_X12_cursor_64 at ref
    rw [if_pos (by simp (disch := omega) only [nn_add, nn_addl, l_add_nn, nn_sub, nn_subl, nn_m1, nn_mull, nn_t, nn_i, l_t, nn_lt, nn_le, nn_eq, nn_ltl, l_lt_nn, nn_lel, l_le_nn, nn_eql, l_eql, nn_nm1, xin_nn, xin_l, m1_lt, m1_le, m1_p, m1_z, dlt_T, dlt_F, dle_T, dle_F, deq_T, deq_F, sI_c, sI_n, sI_J, sI_E, sJ_c, sJ_n, sJ_I, sJ_E, sE_I, sE_J, sE_E, xcI_i, xcJ_i, xcR_i, xcV_i, xcI_e, xcJ_e, xcR_e, xcV_e, if_true, if_false, ite_true, ite_false, true_and, and_true, false_and, and_false, or_true, true_or, or_false, false_or, not_true_eq_false, not_false_eq_true, eq_self, ne_eq, ↓reduceIte, Nat.reduceEqDiff, Nat.reduceLT, Nat.reduceLeDiff, Nat.reduceAdd, Nat.reduceMul, Nat.reduceSub, Int32.reduceLT, Int32.reduceLE, reduceCtorEq]), if_pos rfl, h20b, nn_addl] at ref
    rcases MI_sign (N := N) m5 36 (x := 36) (c := 46) rfl rfl (by decide) (by decide) with ⟨s1, s2, s3, s4, m6⟩ | ⟨s3, s4, s5⟩
    · rw [xcV_of s3] at cls
      rw [xcI_of s4, if_neg (by decide)] at ref
      have ek : (sI (sI (sI (sI (sI (sI Sc (102 + 2 * ns) 0 (nn 50)) 97 4 (nn (ns + 1))) (102 + 2 * ns) 3 (nn i)) 1 7 (nn (t + 1))) (102 + 2 * ns) 1 (nn (k + 1))) 1 7 (nn (t + 1 + 1))).1 (102 + 2 * ns) 1 = nn (k + 1) := by simp (disch := omega) only [nn_add, nn_addl, l_add_nn, nn_sub, nn_subl, nn_m1, nn_mull, nn_t, nn_i, l_t, nn_lt, nn_le, nn_eq, nn_ltl, l_lt_nn, nn_lel, l_le_nn, nn_eql, l_eql, nn_nm1, xin_nn, xin_l, m1_lt, m1_le, m1_p, m1_z, dlt_T, dlt_F, dle_T, dle_F, deq_T, deq_F, sI_c, sI_n, sI_J, sI_E, sJ_c, sJ_n, sJ_I, sJ_E, sE_I, sE_J, sE_E, xcI_i, xcJ_i, xcR_i, xcV_i, xcI_e, xcJ_e, xcR_e, xcV_e, if_true, if_false, ite_true, ite_false, true_and, and_true, false_and, and_false, or_true, true_or, or_false, false_or, not_true_eq_false, not_false_eq_true, eq_self, ne_eq, ↓reduceIte, Nat.reduceEqDiff, Nat.reduceLT, Nat.reduceLeDiff, Nat.reduceAdd, Nat.reduceMul, Nat.reduceSub, Int32.reduceLT, Int32.reduceLE, reduceCtorEq]
      rw [ek] at cls
      rcases MI_field hN m6 k1 with ⟨f, f1, f2, f3, f4, f5, m7⟩ | ⟨f4, f5, f6⟩
      · have m8 := MI_set m7 2 (nn f)
        rw [xcI_of f4] at cls
        rw [xcI_of f5, if_neg (by simp (disch := omega) only [nn_add, nn_addl, l_add_nn, nn_sub, nn_subl, nn_m1, nn_mull, nn_t, nn_i, l_t, nn_lt, nn_le, nn_eq, nn_ltl, l_lt_nn, nn_lel, l_le_nn, nn_eql, l_eql, nn_nm1, xin_nn, xin_l, m1_lt, m1_le, m1_p, m1_z, dlt_T, dlt_F, dle_T, dle_F, deq_T, deq_F, sI_c, sI_n, sI_J, sI_E, sJ_c, sJ_n, sJ_I, sJ_E, sE_I, sE_J, sE_E, xcI_i, xcJ_i, xcR_i, xcV_i, xcI_e, xcJ_e, xcR_e, xcV_e, if_true, if_false, ite_true, ite_false, true_and, and_true, false_and, and_false, or_true, true_or, or_false, false_or, not_true_eq_false, not_false_eq_true, eq_self, ne_eq, ↓reduceIte, Nat.reduceEqDiff, Nat.reduceLT, Nat.reduceLeDiff, Nat.reduceAdd, Nat.reduceMul, Nat.reduceSub, Int32.reduceLT, Int32.reduceLE, reduceCtorEq])] at ref
        rcases MI_sign (N := N) m8 21 (x := 21) (c := 61) rfl rfl (by decide) (by decide) with ⟨r1, r2, r3, r4, m9⟩ | ⟨r3, r4, r5⟩
        · rw [xcV_of r3] at cls
          rw [xcI_of r4, if_neg (by decide)] at ref
          rcases MI_inl hN m9 (by omega) (by simp only [List.length_append, List.length_cons, List.length_nil]; omega) with ⟨t2, nv3, E, np2, Sc2, Sr2, q1, q2, q3, q4, q5, q6⟩ | ⟨Sc2, Sr2, q4, q5, q6⟩
          · rw [xcI_of q4] at cls
            rw [xcI_of q5, if_neg (by decide)] at ref
            obtain ⟨d1, d2, d3, d4⟩ := MI_np q6
            have u0 := MI_set q6 6 (nn np)
            obtain ⟨e2, u1⟩ := MI_em (N := N) (v := 108) u0 (by omega)
            obtain ⟨e3, u2⟩ := MI_em (N := N) (v := nn (lvl ty i)) u1 (by rw [List.length_append, List.length_singleton]; omega)
            obtain ⟨e4, u3⟩ := MI_em (N := N) (v := nn k) u2 (by rw [List.length_append, List.length_append, List.length_singleton, List.length_singleton]; omega)
            obtain ⟨e5, u4⟩ := MI_em (N := N) (v := nn f) u3 (by rw [List.length_append, List.length_append, List.length_append, List.length_singleton, List.length_singleton, List.length_singleton]; omega)
            rw [xcV_of e2, xcV_of e3, xcV_of e4, xcV_of e5] at ref
            rcases MI_sign (N := N) u4 34 (x := 34) (c := 59) rfl rfl (by decide) (by decide) with ⟨y1, y2, y3, y4, u5⟩ | ⟨y3, y4, y5⟩
            · rw [xcV_of y3] at cls
              rw [xcI_of y4, if_pos (Or.inr rfl), xcI_i, if_pos (Or.inr rfl)] at ref
              refine so_ok (t2 := t2 + 1) (by omega) (by omega) cls ref (SI_done h u5 (by omega) (by omega) (50, 0, 0, i, lvl ty i, scb3 nb ty kd) rfl (show ¬ tga 50 by unfold tga; decide) rfl (show 50 ≤ 50 by decide) ?_ (by simp) ?_ (show ¬ 50 = 8 by decide))
              · exact Or.inr (Or.inr (Or.inr (Or.inr (Or.inr (Or.inr (Or.inr (Or.inr (Or.inr (Or.inr (Or.inr ⟨rfl, k, f, np, E, k1, f1, rfl, rfl, rfl, k3, rfl, MI_x u5 (x := (0, np, E)) List.mem_cons_self, by simp⟩))))))))))
              · simp only [List.length_append, List.length_cons, List.length_nil] at q3 ⊢
                omega
            · rw [xcV_oe y3] at cls
              rw [xcI_of y4, if_pos (Or.inl rfl), xcI_i, if_pos (Or.inl rfl)] at ref
              exact Or.inr ⟨_, _, cls, ref, r_bad_v y5 (by omega)⟩
          · rw [xcI_oe q4] at cls
            rw [xcI_of q5, if_pos rfl, f_X12_cursor_150, xcI_i, if_pos (Or.inl rfl)] at ref
            exact Or.inr ⟨_, _, cls, ref, q6⟩
        · rw [xcV_oe r3] at cls
          rw [xcI_of r4, if_pos rfl, f_X12_cursor_150, xcI_i, if_pos (Or.inl rfl)] at ref
          exact Or.inr ⟨_, _, cls, ref, r5⟩
      · rw [xcI_oe f4] at cls
        rw [xcI_of f5, if_pos (by decide), f_X12_cursor_150, xcI_i, if_pos (Or.inl rfl)] at ref
        exact Or.inr ⟨_, _, cls, ref, f6⟩
    · rw [xcV_oe s3] at cls
      rw [xcI_of s4, if_pos rfl, xcI_i, if_pos (Or.inl rfl)] at ref
      exact Or.inr ⟨_, _, cls, ref, s5⟩
  · rw [xcI_oe k4] at cls
    rw [k6, xcI_i, if_pos (Or.inl rfl)] at ref
    exact Or.inr ⟨_, _, cls, ref, p_bad m2.1⟩
/-- what begins no statement -/
theorem p_none (hN : 1000 < N) (h : SI Sc Sr m s t nk nv wd nb ns ty op kd A D np nu) (hs : s t = 4 ∨ s t = 9 ∨ s t = 11 ∨ (14 ≤ s t ∧ ¬ s t = 32 ∧ ¬ s t = 40)) : SO m s t nk nv wd (f_X6_change N Sc) (f_X12_statement N Sr) := by
  obtain ⟨c1, c2, c3, c4, c5, c6, c7, c8⟩ := SI_b h
  obtain ⟨h1, h2, h3, _⟩ := h
  have g1 : r_P (sI (sI Sc (102 + 2 * ns) 0 (nn 50)) 97 4 (nn (ns + 1))) Sr m s t nk nv wd := r_P_c h1 (agc_s (agc_s (agc_r _) (by omega)) (by omega)) (agr_r _)
  obtain ⟨b1, b2, b3, b4, b5⟩ := h2
  have g2 : r_bk (sI (sI Sc (102 + 2 * ns) 0 (nn 50)) 97 4 (nn (ns + 1))) Sr nb ns ty op kd A nk := ⟨b1, b2, by simp (disch := omega) only [nn_add, nn_addl, l_add_nn, nn_sub, nn_subl, nn_m1, nn_mull, nn_t, nn_i, l_t, nn_lt, nn_le, nn_eq, nn_ltl, l_lt_nn, nn_lel, l_le_nn, nn_eql, l_eql, nn_nm1, xin_nn, xin_l, m1_lt, m1_le, m1_p, m1_z, dlt_T, dlt_F, dle_T, dle_F, deq_T, deq_F, sI_c, sI_n, sI_J, sI_E, sJ_c, sJ_n, sJ_I, sJ_E, sE_I, sE_J, sE_E, xcI_i, xcJ_i, xcR_i, xcV_i, xcI_e, xcJ_e, xcR_e, xcV_e, if_true, if_false, ite_true, ite_false, true_and, and_true, false_and, and_false, or_true, true_or, or_false, false_or, not_true_eq_false, not_false_eq_true, eq_self, ne_eq, ↓reduceIte, Nat.reduceEqDiff, Nat.reduceLT, Nat.reduceLeDiff, Nat.reduceAdd, Nat.reduceMul, Nat.reduceSub, Int32.reduceLT, Int32.reduceLE, reduceCtorEq, b3], b4, fun i hi => by
    have := b5 i hi
    have h3 := this.2.2.1
    simp (disch := omega) only [nn_add, nn_addl, l_add_nn, nn_sub, nn_subl, nn_m1, nn_mull, nn_t, nn_i, l_t, nn_lt, nn_le, nn_eq, nn_ltl, l_lt_nn, nn_lel, l_le_nn, nn_eql, l_eql, nn_nm1, xin_nn, xin_l, m1_lt, m1_le, m1_p, m1_z, dlt_T, dlt_F, dle_T, dle_F, deq_T, deq_F, sI_c, sI_n, sI_J, sI_E, sJ_c, sJ_n, sJ_I, sJ_E, sE_I, sE_J, sE_E, xcI_i, xcJ_i, xcR_i, xcV_i, xcI_e, xcJ_e, xcR_e, xcV_e, if_true, if_false, ite_true, ite_false, true_and, and_true, false_and, and_false, or_true, true_or, or_false, false_or, not_true_eq_false, not_false_eq_true, eq_self, ne_eq, ↓reduceIte, Nat.reduceEqDiff, Nat.reduceLT, Nat.reduceLeDiff, Nat.reduceAdd, Nat.reduceMul, Nat.reduceSub, Int32.reduceLT, Int32.reduceLE, reduceCtorEq]
    exact this.2.2.2⟩
  refine Or.inr ⟨sE (sI (sI Sc (102 + 2 * ns) 0 (nn 50)) 97 4 (nn (ns + 1))), badR Sr s t, ?_, st_bad h1 hs, p_bad g1⟩
  have a1 : f_X5_addStep N 50 Sc = some (rR (102 + 2 * ns) (sI (sI Sc (102 + 2 * ns) 0 (nn 50)) 97 4 (nn (ns + 1)))) := by
    simp (disch := omega) only [nn_add, nn_addl, l_add_nn, nn_sub, nn_subl, nn_m1, nn_mull, nn_t, nn_i, l_t, nn_lt, nn_le, nn_eq, nn_ltl, l_lt_nn, nn_lel, l_le_nn, nn_eql, l_eql, nn_nm1, xin_nn, xin_l, m1_lt, m1_le, m1_p, m1_z, dlt_T, dlt_F, dle_T, dle_F, deq_T, deq_F, sI_c, sI_n, sI_J, sI_E, sJ_c, sJ_n, sJ_I, sJ_E, sE_I, sE_J, sE_E, xcI_i, xcJ_i, xcR_i, xcV_i, xcI_e, xcJ_e, xcR_e, xcV_e, if_true, if_false, ite_true, ite_false, true_and, and_true, false_and, and_false, or_true, true_or, or_false, false_or, not_true_eq_false, not_false_eq_true, eq_self, ne_eq, ↓reduceIte, Nat.reduceEqDiff, Nat.reduceLT, Nat.reduceLeDiff, Nat.reduceAdd, Nat.reduceMul, Nat.reduceSub, Int32.reduceLT, Int32.reduceLE, reduceCtorEq, f_X5_addStep, h3]
    rfl
  unfold f_X6_change
  rw [xcR_of a1, xcI_oe (p_cursor0 (by omega) g1 g2 (Or.inl (by omega)))]
end PT
