/-! 56: each; the end of a block -/
section EA
variable {S0 R0 Sc Sr Sc' Sr' : xS} {m t t' nk nv nv' nb ns np0 nu0 nu np rk0 N k st : Nat} {s wd ty op kd A : Nat → Nat} {Z : Nat → Int32} {L : List Int32} {X : List xX} {U : List (Nat × Nat)} {M : List Nat} {D : Nat → xD}
theorem p_each (hN : 1000 < N) (h : SI Sc Sr m s t nk nv wd nb ns ty op kd A D np nu) (hs : s t = 8) : SO m s t nk nv wd (f_X6_each N Sc) (f_X12_statement N Sr) := by
  have ht := h.1.lt (by omega) (by omega)
  obtain ⟨c1, c2, c3, c4, c5, c6, c7, c8⟩ := SI_b h
  obtain ⟨a1, m0⟩ := MI_0 (N := N) (SI_J h) (by omega) 8 (x := 8) rfl
  obtain ⟨e1, m1⟩ := MI_em (N := N) (v := 100) m0 (by simp only [List.length_nil]; omega)
  have m2 := MI_n m1 ht
  have hp := p_pass (N := N) m1.1 ht
  have h20 := m1.1.2.2.2.1
  have xs : xStep (102 + 2 * ns) := ⟨by omega, by omega, by omega⟩
  have cls : f_X6_each N Sc = xcI (f_X7_takeKind N (sI (sI (sI Sc (102 + 2 * ns) 0 (nn 8)) 97 4 (nn (ns + 1))) 1 7 (nn (t + 1)))) (fun v24 S23 => xcV (f_X9_take N 9 (sI S23 (102 + 2 * ns) 1 v24)) (fun S26 => xcI (f_X7_takeField N (S26.1 (102 + 2 * ns) 1) S26) (fun v29 S28 => xcI (f_X6_where N ((sI S28 (102 + 2 * ns) 2 v29).1 (102 + 2 * ns) 1) (sI S28 (102 + 2 * ns) 2 v29)) (fun v31 S30 => xcR (f_X5_addStep N 48 (sI (sI S30 (102 + 2 * ns) 5 v31) (102 + 2 * ns) 3 ((sI S30 (102 + 2 * ns) 5 v31).1 405 4))) (fun v33 S32 => if xStep v33 then xcV (f_X7_openBlock N ((sI (sI S30 (102 + 2 * ns) 5 v31) (102 + 2 * ns) 3 ((sI S30 (102 + 2 * ns) 5 v31).1 405 4)).1 97 4) (sI (sI S32 v33 1 (S32.1 (102 + 2 * ns) 1)) v33 3 ((sI S32 v33 1 (S32.1 (102 + 2 * ns) 1)).1 (102 + 2 * ns) 3))) (fun S35 => some (.inl none, S35)) else none))))) := by
    unfold f_X6_each
    rw [xcR_of a1, xcV_of hp]
    simp only [if_pos xs]
  have ref : f_X12_statement N Sr = xcI (xcI (f_X12_takeKind N (sI (em Sr (A ns + ([] : List Int32).length) 100) 503 20 (nn (t + 1)))) (fun v78 S77 =>
      if v78 < 0 then f_X12_each_34 N S77
      else xcI (f_X12_keyword N 8 S77) (fun v81 S80 =>
        if v81 = 0 then f_X12_each_34 N S80
        else xcI (f_X12_takeField N v78 S80) (fun v84 S83 =>
          if 0 ≤ v84 then xcI (f_X12_levels N S83) (fun v87 S86 => xcV (f_X12_emit N 106 S86) (fun S88 => xcV (f_X12_emit N v87 S88) (fun S90 => xcV (f_X12_emit N v78 S90) (fun S92 => xcV (f_X12_emit N v84 S92) (fun S94 => xcI (f_X12_whereOf N v78 S94) (fun v97 S96 =>
            if v97 = 0 then some (.inl (some (.inl 0)), S96)
            else xcV (f_X12_emit N 107 S96) (fun S99 => xcV (f_X12_emit N v87 S99) (fun S101 => xcV (f_X12_emit N v78 S101) (fun S103 => xcV (f_X12_emit N 0 S103) (fun S105 => xcV (f_X12_block N 4 ((S105.1 503 25) - 1) (S96.1 503 25) v78 S105) (fun S107 => xcI (f_X12_opens N S107) (fun v110 S109 => if xbo v110 then some (.inl (some (.inl v110)), S109) else none))))))))))))
          else some (.inl (some (.inl 0)), S83))))) (fun v S => if xbo v then some (.inl (some (.inl v)), S) else none) := by
    rw [st_each h.1 hs]
    unfold f_X12_each
    rw [xcV_of e1, h20, nn_addl]
  rcases MI_kind hN m2 with ⟨k, k1, k2, k3, k4, k5, m3⟩ | ⟨k4, k5, k6⟩
  · rw [xcI_of k4] at cls
    rw [xcI_of k5, if_neg (by simp (disch := omega) only [nn_add, nn_addl, l_add_nn, nn_sub, nn_subl, nn_m1, nn_mull, nn_t, nn_i, l_t, nn_lt, nn_le, nn_eq, nn_ltl, l_lt_nn, nn_lel, l_le_nn, nn_eql, l_eql, nn_nm1, xin_nn, xin_l, m1_lt, m1_le, m1_p, m1_z, dlt_T, dlt_F, dle_T, dle_F, deq_T, deq_F, sI_c, sI_n, sI_J, sI_E, sJ_c, sJ_n, sJ_I, sJ_E, sE_I, sE_J, sE_E, xcI_i, xcJ_i, xcR_i, xcV_i, xcI_e, xcJ_e, xcR_e, xcV_e, if_true, if_false, ite_true, ite_false, true_and, and_true, false_and, and_false, or_true, true_or, or_false, false_or, not_true_eq_false, not_false_eq_true, eq_self, ne_eq, ↓reduceIte, Nat.reduceEqDiff, Nat.reduceLT, Nat.reduceLeDiff, Nat.reduceAdd, Nat.reduceMul, Nat.reduceSub, Int32.reduceLT, Int32.reduceLE, reduceCtorEq])] at ref
    have m4 := MI_set m3 1 (nn (k + 1))
    rcases MI_word (N := N) m4 9 (x := 9) (c := 8) rfl rfl (by decide) (by decide) with ⟨r1, r2, r3, r4, m5⟩ | ⟨r3, r4, r5⟩
    · rw [xcV_of r3] at cls
      rw [xcI_of r4, if_neg (by decide)] at ref
      have ek : (sI (sI (sI (sI (sI (sI Sc (102 + 2 * ns) 0 (nn 8)) 97 4 (nn (ns + 1))) 1 7 (nn (t + 1))) 1 7 (nn (t + 1 + 1))) (102 + 2 * ns) 1 (nn (k + 1))) 1 7 (nn (t + 1 + 1 + 1))).1 (102 + 2 * ns) 1 = nn (k + 1) := by simp (disch := omega) only [nn_add, nn_addl, l_add_nn, nn_sub, nn_subl, nn_m1, nn_mull, nn_t, nn_i, l_t, nn_lt, nn_le, nn_eq, nn_ltl, l_lt_nn, nn_lel, l_le_nn, nn_eql, l_eql, nn_nm1, xin_nn, xin_l, m1_lt, m1_le, m1_p, m1_z, dlt_T, dlt_F, dle_T, dle_F, deq_T, deq_F, sI_c, sI_n, sI_J, sI_E, sJ_c, sJ_n, sJ_I, sJ_E, sE_I, sE_J, sE_E, xcI_i, xcJ_i, xcR_i, xcV_i, xcI_e, xcJ_e, xcR_e, xcV_e, if_true, if_false, ite_true, ite_false, true_and, and_true, false_and, and_false, or_true, true_or, or_false, false_or, not_true_eq_false, not_false_eq_true, eq_self, ne_eq, ↓reduceIte, Nat.reduceEqDiff, Nat.reduceLT, Nat.reduceLeDiff, Nat.reduceAdd, Nat.reduceMul, Nat.reduceSub, Int32.reduceLT, Int32.reduceLE, reduceCtorEq]
      rw [ek] at cls
      rcases MI_field hN m5 k1 with ⟨f, f1, f2, f3, f4, f5, m6⟩ | ⟨f4, f5, f6⟩
      · have m7 := MI_set m6 2 (nn f)
        rw [xcI_of f4] at cls
        rw [xcI_of f5, if_pos (by simp (disch := omega) only [nn_add, nn_addl, l_add_nn, nn_sub, nn_subl, nn_m1, nn_mull, nn_t, nn_i, l_t, nn_lt, nn_le, nn_eq, nn_ltl, l_lt_nn, nn_lel, l_le_nn, nn_eql, l_eql, nn_nm1, xin_nn, xin_l, m1_lt, m1_le, m1_p, m1_z, dlt_T, dlt_F, dle_T, dle_F, deq_T, deq_F, sI_c, sI_n, sI_J, sI_E, sJ_c, sJ_n, sJ_I, sJ_E, sE_I, sE_J, sE_E, xcI_i, xcJ_i, xcR_i, xcV_i, xcI_e, xcJ_e, xcR_e, xcV_e, if_true, if_false, ite_true, ite_false, true_and, and_true, false_and, and_false, or_true, true_or, or_false, false_or, not_true_eq_false, not_false_eq_true, eq_self, ne_eq, ↓reduceIte, Nat.reduceEqDiff, Nat.reduceLT, Nat.reduceLeDiff, Nat.reduceAdd, Nat.reduceMul, Nat.reduceSub, Int32.reduceLT, Int32.reduceLE, reduceCtorEq])] at ref
        have hlv := p_levels (N := N) (by omega) m6.2.1
        rw [xcI_of hlv] at ref
        obtain ⟨y1, u1⟩ := MI_em (N := N) (v := 106) m7 (by simp only [List.length_append, List.length_cons, List.length_nil]; omega)
        obtain ⟨y2, u2⟩ := MI_em (N := N) (v := nn (lvl ty nb)) u1 (by simp only [List.length_append, List.length_cons, List.length_nil]; omega)
        obtain ⟨y3, u3⟩ := MI_em (N := N) (v := nn k) u2 (by simp only [List.length_append, List.length_cons, List.length_nil]; omega)
        obtain ⟨y4, u4⟩ := MI_em (N := N) (v := nn f) u3 (by simp only [List.length_append, List.length_cons, List.length_nil]; omega)
        rw [xcV_of y1, xcV_of y2, xcV_of y3, xcV_of y4] at ref
        have eZ := m7.2.2.2.2.2.2.2.2.2.2.2.1
        generalize hSc6 : sI (sI (sI (sI (sI (sI (sI (sI Sc (102 + 2 * ns) 0 (nn 8)) 97 4 (nn (ns + 1))) 1 7 (nn (t + 1))) 1 7 (nn (t + 1 + 1))) (102 + 2 * ns) 1 (nn (k + 1))) 1 7 (nn (t + 1 + 1 + 1))) 1 7 (nn (t + 1 + 1 + 1 + 1))) (102 + 2 * ns) 2 (nn f) = Sc6 at *
        have ek2 : Sc6.1 (102 + 2 * ns) 1 = nn (k + 1) := by rw [eZ]; rfl
        rw [ek2] at cls
        rcases MI_where hN u4 (by simp only [List.length_append, List.length_cons, List.length_nil]; omega) k1 with ⟨t2, nv2, o, np2, Sc7, Sr7, q1, q2, q3, q4, q5, q6⟩ | ⟨Sc7, Sr7, q4, q5, q6⟩
        · rw [xcI_of q4] at cls
          rw [xcI_of q5, if_neg (by decide)] at ref
          obtain ⟨d1, d2, d3, d4⟩ := MI_np q6
          have m8 := MI_set q6 5 (whI o)
          have e405 : (sI Sc7 (102 + 2 * ns) 5 (whI o)).1 405 4 = nn nb := m8.2.1.2.2.1
          rw [e405] at cls
          have m9 := MI_set m8 3 (nn nb)
          generalize hLL : [] ++ [100] ++ [106] ++ [nn (lvl ty nb)] ++ [nn k] ++ [nn f] ++ whc o = LL at *
          obtain ⟨J1, J2⟩ := SI_fin (SI_J h) h.2.2.2.2.2.2.2.2.2.2.2.2.2.2.2.2.2 (Nat.le_refl _) (by omega) (fun _ _ => rfl) m9 (by omega) (8, 0, k, nb, lvl ty nb, scb3 nb ty kd) rfl (show ¬ tga 8 by unfold tga; decide) rfl (show 8 ≤ 50 by decide) (by
            refine Or.inr (Or.inr (Or.inr (Or.inr (Or.inr (Or.inr (Or.inl ⟨rfl, k, f, o, k1, f2, rfl, rfl, rfl, ?_, by rw [← hLL]; simp, rfl⟩))))))
            cases o with
            | none => exact rfl
            | some z => exact ⟨rfl, MI_x m9 (x := (k + 1, z.1, z.2)) List.mem_cons_self⟩) (by rw [← hLL]; simp) (by omega) (by omega)
          have eZ9 := m9.2.2.2.2.2.2.2.2.2.2.2.1
          have e97 : (sI (sI Sc7 (102 + 2 * ns) 5 (whI o)) (102 + 2 * ns) 3 (nn nb)).1 97 4 = nn (ns + 1) := m9.2.2.1
          rw [e97] at cls
          generalize hSc9 : sI (sI Sc7 (102 + 2 * ns) 5 (whI o)) (102 + 2 * ns) 3 (nn nb) = Sc9 at *
          obtain ⟨a2, n0⟩ := MI_0 (N := N) J1 (by omega) 48 (x := 48) rfl
          have xs2 : xStep (102 + 2 * (ns + 1)) := ⟨by omega, by omega, by omega⟩
          rw [xcR_of a2, if_pos xs2] at cls
          have ev1 : (sI (sI Sc9 (102 + 2 * (ns + 1)) 0 (nn 48)) 97 4 (nn (ns + 1 + 1))).1 (102 + 2 * ns) 1 = nn (k + 1) := by
            rw [sI_n (by omega), sI_n (by omega), eZ9]; rfl
          have ev3 : (sI (sI (sI Sc9 (102 + 2 * (ns + 1)) 0 (nn 48)) 97 4 (nn (ns + 1 + 1))) (102 + 2 * (ns + 1)) 1 (nn (k + 1))).1 (102 + 2 * ns) 3 = nn nb := by
            rw [sI_n (by omega), sI_n (by omega), sI_n (by omega), eZ9]; rfl
          rw [ev1, ev3] at cls
          have n1 := MI_set n0 1 (nn (k + 1))
          have n2 := MI_set n1 3 (nn nb)
          have hA1 : upw A (ns + 1) (A ns + LL.length) (ns + 1) = A ns + LL.length := upw_s _ _ _
          obtain ⟨z1, w1⟩ := MI_em (N := N) (v := 107) n2 (by rw [hA1]; simp only [List.length_nil]; omega)
          obtain ⟨z2, w2⟩ := MI_em (N := N) (v := nn (lvl ty nb)) w1 (by rw [hA1]; simp only [List.length_append, List.length_cons, List.length_nil]; omega)
          obtain ⟨z3, w3⟩ := MI_em (N := N) (v := nn k) w2 (by rw [hA1]; simp only [List.length_append, List.length_cons, List.length_nil]; omega)
          obtain ⟨z4, w4⟩ := MI_em (N := N) (v := 0) w3 (by rw [hA1]; simp only [List.length_append, List.length_cons, List.length_nil]; omega)
          have h25a : Sr7.1 503 25 = nn (A ns + LL.length) := q6.2.2.2.2.2.1
          rw [xcV_of z1, xcV_of z2, xcV_of z3, xcV_of z4, em_25, nn_s1, h25a] at ref
          have hop := SI_open (N := N) (τ := 4) (κ := k) (x1 := 4) (x3 := nn (A ns + LL.length)) (x4 := nn k) J1 w4 (Nat.le_refl _) (Nat.le_refl _) (48, 0, nb, nb, lvl ty nb, scb3 nb ty kd) rfl rfl (by omega) (fun _ => ⟨rfl, rfl, rfl⟩) (fun _ => ⟨by omega, by rw [Nat.add_sub_cancel, uD_s]⟩) (fun i hi => by
              have : i = ns := by omega
              subst this
              rw [uD_s]
              exact ⟨fun _ => rfl, fun _ => rfl⟩) (fun i hi _ => by
              have : i = ns := by omega
              subst this
              rw [uD_s]
              exact ⟨rfl, rfl⟩) (fun _ => J2) rfl (fun _ => ⟨rfl, rfl, k1⟩) (Or.inr (Or.inr (Or.inr (Or.inr (Or.inr (Or.inr (Or.inr (Or.inl ⟨rfl, k, rfl, rfl, by simp⟩)))))))) (by simp) (by rw [hA1]; simp only [List.length_append, List.length_cons, List.length_nil]; omega) (by omega) rfl (fun _ => by rw [hA1]) (fun _ => rfl)
          have hass : ∀ (f : Option xr), xcI (xcV f (fun S31 => xcI (f_X12_opens N S31) (fun v34 S33 => if xbo v34 then some (.inl (some (.inl v34)), S33) else none))) (fun v S => if xbo v then some (.inl (some (.inl v)), S) else none) = xcI (xcI (xcV f (fun S => f_X12_opens N S)) (fun v34 S33 => if xbo v34 then some (.inl (some (.inl v34)), S33) else none)) (fun v S => if xbo v then some (.inl (some (.inl v)), S) else none) := by
            intro f
            match f with
            | none => rfl
            | some (.inl none, S) => rfl
            | some (.inl (some _), S) => rfl
            | some (.inr _, S) => rfl
          rw [hass] at ref
          rcases hop with ⟨Sc3, Sr3, o1, o2, o3⟩ | ⟨Sc3, Sr3, o1, o2, o3⟩
          · rw [xcV_of o1] at cls
            rw [xcI_of o2, if_pos (Or.inr rfl), xcI_i, if_pos (Or.inr rfl)] at ref
            exact Or.inl ⟨t2 + 1, nk, nv2, wd, _, _, _, _, _, _, _, _, _, Sc3, Sr3, by omega, Nat.le_refl _, q2, fun _ _ => rfl, cls, ref, o3⟩
          · rw [xcV_oe o1] at cls
            rw [xcI_of o2, if_pos (Or.inl rfl), xcI_i, if_pos (Or.inl rfl)] at ref
            exact Or.inr ⟨_, _, cls, ref, r_bad_v o3 q2⟩
        · rw [xcI_oe q4] at cls
          rw [xcI_of q5, if_pos rfl, xcI_i, if_pos (Or.inl rfl)] at ref
          exact Or.inr ⟨_, _, cls, ref, q6⟩
      · rw [xcI_oe f4] at cls
        rw [xcI_of f5, if_neg (by decide), xcI_i, if_pos (Or.inl rfl)] at ref
        exact Or.inr ⟨_, _, cls, ref, f6⟩
    · rw [xcV_oe r3] at cls
      rw [xcI_of r4, if_pos rfl, f_X12_each_34, xcI_i, if_pos (Or.inl rfl)] at ref
      exact Or.inr ⟨_, _, cls, ref, r5⟩
  · rw [xcI_oe k4] at cls
    rw [xcI_of k5, if_pos (by decide), f_X12_each_34, xcI_i, if_pos (Or.inl rfl)] at ref
    exact Or.inr ⟨_, _, cls, ref, k6⟩
end EA
