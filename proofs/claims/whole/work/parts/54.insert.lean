/-! 54: insert and set -/
section IN
variable {S0 R0 Sc Sr Sc' Sr' : xS} {m t t' nk nv nv' nb ns np0 nu0 nu np rk0 N k st : Nat} {s wd ty op kd A : Nat → Nat} {Z : Nat → Int32} {L : List Int32} {X : List xX} {U : List (Nat × Nat)} {M : List Nat} {D : Nat → xD}
theorem p_main_l (hM : M.length ≤ 6) : ∀ (j i n : Nat) (L : List Int32) (Sr : xS), i + j = M.length → MI S0 R0 Sc Sr m s t nk nv wd nb ns ty op kd A np0 nu0 np Z L X U M → A ns + L.length + j < 3000 → j < n → ∃ Sr2, f_X12_puts_214 N n (nn M.length) (nn i) Sr = f_X12_puts_238 N Sr2 ∧ MI S0 R0 Sc Sr2 m s t nk nv wd nb ns ty op kd A np0 nu0 np Z (L ++ (M.drop i).map nn) X U M := by
  intro j
  induction j with
  | zero =>
    intro i n L Sr hi h hc hn
    obtain ⟨n, rfl⟩ := Nat.exists_eq_succ_of_ne_zero (Nat.ne_of_gt (Nat.zero_lt_of_lt hn))
    refine ⟨Sr, ?_, ?_⟩
    · rw [f_X12_puts_214.eq_2, if_pos (by simp (disch := omega) only [nn_add, nn_addl, l_add_nn, nn_sub, nn_subl, nn_m1, nn_mull, nn_t, nn_i, l_t, nn_lt, nn_le, nn_eq, nn_ltl, l_lt_nn, nn_lel, l_le_nn, nn_eql, l_eql, nn_nm1, xin_nn, xin_l, m1_lt, m1_le, m1_p, m1_z, dlt_T, dlt_F, dle_T, dle_F, deq_T, deq_F, sI_c, sI_n, sI_J, sI_E, sJ_c, sJ_n, sJ_I, sJ_E, sE_I, sE_J, sE_E, xcI_i, xcJ_i, xcR_i, xcV_i, xcI_e, xcJ_e, xcR_e, xcV_e, if_true, if_false, ite_true, ite_false, true_and, and_true, false_and, and_false, or_true, true_or, or_false, false_or, not_true_eq_false, not_false_eq_true, eq_self, ne_eq, ↓reduceIte, Nat.reduceEqDiff, Nat.reduceLT, Nat.reduceLeDiff, Nat.reduceAdd, Nat.reduceMul, Nat.reduceSub, Int32.reduceLT, Int32.reduceLE, reduceCtorEq])]
    · rw [List.drop_of_length_le (by omega), List.map_nil, List.append_nil]
      exact h
  | succ j ih =>
    intro i n L Sr hi h hc hn
    obtain ⟨n, rfl⟩ := Nat.exists_eq_succ_of_ne_zero (Nat.ne_of_gt (Nat.zero_lt_of_lt hn))
    have h525 := h.2.2.2.2.2.2.2.2.2.2.2.2.2.2.2.1 i (by omega)
    obtain ⟨e1, m1⟩ := MI_em (N := N) (v := nn (M.getD i 0)) h (by omega)
    obtain ⟨Sr2, g1, g2⟩ := ih (i + 1) n _ _ (by omega) m1 (by rw [List.length_append, List.length_singleton]; omega) (by omega)
    refine ⟨Sr2, ?_, ?_⟩
    · rw [f_X12_puts_214.eq_2, if_neg (by simp (disch := omega) only [nn_add, nn_addl, l_add_nn, nn_sub, nn_subl, nn_m1, nn_mull, nn_t, nn_i, l_t, nn_lt, nn_le, nn_eq, nn_ltl, l_lt_nn, nn_lel, l_le_nn, nn_eql, l_eql, nn_nm1, xin_nn, xin_l, m1_lt, m1_le, m1_p, m1_z, dlt_T, dlt_F, dle_T, dle_F, deq_T, deq_F, sI_c, sI_n, sI_J, sI_E, sJ_c, sJ_n, sJ_I, sJ_E, sE_I, sE_J, sE_E, xcI_i, xcJ_i, xcR_i, xcV_i, xcI_e, xcJ_e, xcR_e, xcV_e, if_true, if_false, ite_true, ite_false, true_and, and_true, false_and, and_false, or_true, true_or, or_false, false_or, not_true_eq_false, not_false_eq_true, eq_self, ne_eq, ↓reduceIte, Nat.reduceEqDiff, Nat.reduceLT, Nat.reduceLeDiff, Nat.reduceAdd, Nat.reduceMul, Nat.reduceSub, Int32.reduceLT, Int32.reduceLE, reduceCtorEq]), if_pos ((xin_nn (by omega)).mpr (by omega)), nn_t (by omega), h525, xcV_of e1, nn_addl]
      exact g1
    · have hi2 : i < M.length := by omega
      rw [List.drop_eq_getElem_cons hi2, List.map_cons]
      rw [List.append_assoc] at g2
      have e3 : M.getD i 0 = M[i] := by rw [List.getD_eq_getElem?_getD, List.getElem?_eq_getElem hi2]; rfl
      rw [← e3]
      exact g2
theorem p_insert (hN : 1000 < N) (h : SI Sc Sr m s t nk nv wd nb ns ty op kd A D np nu) (hs : s t = 2) : SO m s t nk nv wd (f_X6_insert N Sc) (f_X12_statement N Sr) := by
  have ht := h.1.lt (by omega) (by omega)
  obtain ⟨c1, c2, c3, c4, c5, c6, c7, c8⟩ := SI_b h
  obtain ⟨a1, m0⟩ := MI_0 (N := N) (SI_J h) (by omega) 2 (x := 2) rfl
  obtain ⟨e1, m1⟩ := MI_em (N := N) (v := 100) m0 (by simp only [List.length_nil]; omega)
  have m2 := MI_n m1 ht
  have hp := p_pass (N := N) m1.1 ht
  have h20 := m1.1.2.2.2.1
  have xs : xStep (102 + 2 * ns) := ⟨by omega, by omega, by omega⟩
  have cls : f_X6_insert N Sc = xcI (f_X7_takeKind N (sI (sI (sI Sc (102 + 2 * ns) 0 (nn 2)) 97 4 (nn (ns + 1))) 1 7 (nn (t + 1)))) (fun v17 S16 => xcV (f_X6_puts N (102 + 2 * ns) 0 (sI S16 (102 + 2 * ns) 1 v17)) (fun S19 => xcV (f_X9_take N 34 S19) (fun S21 => some (.inl none, S21)))) := by
    unfold f_X6_insert
    rw [xcR_of a1, xcV_of hp]
    simp only [if_pos xs]
  have ref : f_X12_statement N Sr = xcI (xcI (f_X12_takeKind N (sI (em Sr (A ns + ([] : List Int32).length) 100) 503 20 (nn (t + 1)))) (fun v78 S77 => if 0 ≤ v78 then xcI (f_X12_puts N v78 0 S77) (fun v82 S81 => if xbo v82 then some (.inl (some (.inl v82)), S81) else none) else some (.inl (some (.inl 0)), S77))) (fun v S => if xbo v then some (.inl (some (.inl v)), S) else none) := by
    rw [st_on h.1 1 (by omega) hs]
    unfold f_X12_onKind
    rw [xcV_of e1, h20, nn_addl]
    rfl
  rcases MI_kind hN m2 with ⟨k, k1, k2, k3, k4, k5, m3⟩ | ⟨k4, k5, k6⟩
  · rw [xcI_of k4] at cls
    rw [xcI_of k5, if_pos (by simp (disch := omega) only [nn_add, nn_addl, l_add_nn, nn_sub, nn_subl, nn_m1, nn_mull, nn_t, nn_i, l_t, nn_lt, nn_le, nn_eq, nn_ltl, l_lt_nn, nn_lel, l_le_nn, nn_eql, l_eql, nn_nm1, xin_nn, xin_l, m1_lt, m1_le, m1_p, m1_z, dlt_T, dlt_F, dle_T, dle_F, deq_T, deq_F, sI_c, sI_n, sI_J, sI_E, sJ_c, sJ_n, sJ_I, sJ_E, sE_I, sE_J, sE_E, xcI_i, xcJ_i, xcR_i, xcV_i, xcI_e, xcJ_e, xcR_e, xcV_e, if_true, if_false, ite_true, ite_false, true_and, and_true, false_and, and_false, or_true, true_or, or_false, false_or, not_true_eq_false, not_false_eq_true, eq_self, ne_eq, ↓reduceIte, Nat.reduceEqDiff, Nat.reduceLT, Nat.reduceLeDiff, Nat.reduceAdd, Nat.reduceMul, Nat.reduceSub, Int32.reduceLT, Int32.reduceLE, reduceCtorEq])] at ref
    have m4 := MI_set m3 1 (nn (k + 1))
    have m5 := MI_set m4 7 (nn nu)
    have e97 := m4.2.2.2.2.1
    have hcl : ∀ S, S = sI (sI (sI (sI (sI Sc (102 + 2 * ns) 0 (nn 2)) 97 4 (nn (ns + 1))) 1 7 (nn (t + 1))) 1 7 (nn (t + 1 + 1))) (102 + 2 * ns) 1 (nn (k + 1)) → f_X6_puts N (102 + 2 * ns) 0 S = f_X6_puts_40 N (f_X6_puts_16 N (N - 1)) (102 + 2 * ns) (nn 0) (nn 0) (nn 0) (sI S (102 + 2 * ns) 7 (nn nu)) := fun S hS => by
      subst hS
      obtain ⟨N', rfl⟩ : ∃ N', N = N' + 1 := ⟨N - 1, by omega⟩
      unfold f_X6_puts
      rw [if_pos xs, e97, f_X6_puts_16.eq_2, if_neg (by decide), if_pos rfl]
      rfl
    have hrf : ∀ S, f_X12_puts N (nn k) 0 S = f_X12_puts_23 N N (nn k) (nn 0) (S.1 503 25) (nn 0) (nn 0) 1 S := fun S => rfl
    rw [hcl _ rfl] at cls
    rw [hrf] at ref
    rcases p_puts_l (N := N) (st := 0) (rk0 := 0) hN (Or.inl ⟨rfl, rfl⟩) k1 (Z := fun i => if i = 7 then nn nu else if i = 1 then nn (k + 1) else if i = 0 then nn 2 else Sc.1 (102 + 2 * ns) i) rfl ((sI (sI (em Sr (A ns + ([] : List Int32).length) 100) 503 20 (nn (t + 1))) 503 20 (nn (t + 1 + 1))).1 503 25) 7 (t + 1 + 1) nv 0 np _ [] [] [] _ _ (N - 1) N m5 rfl (by decide) (fun _ => rfl) (by decide) (by simp only [List.length_append, List.length_cons, List.length_nil]; omega) (by simp only [List.length_nil]; omega) (by omega) (by omega) with ⟨t2, nv2, np2, V, X2, M2, n3, b2, Sc2, Sr2, l1, l2, l3, l4, l5, l6, l7, l8, l9, l10⟩ | ⟨Sc2, Sr2, l5, l6, l7⟩
    · have l5' : f_X6_puts_40 N (f_X6_puts_16 N (N - 1)) (102 + 2 * ns) (nn 0) (nn 0) (nn 0) _ = f_X6_puts_129 N (102 + 2 * ns) Sc2 := l5
      have l6' : f_X12_puts_23 N N (nn k) (nn 0) _ (nn 0) (nn 0) 1 _ = _ := l6
      have hM := l10 rfl
      have hML : M2.length = V.length := by rw [hM, List.nil_append, List.length_map]
      rw [List.length_nil] at l4
      have hUL : (([] : List (Nat × Nat)) ++ V.map uf).length = V.length := by rw [List.nil_append, List.length_map]
      obtain ⟨g1, g2, g3, g4⟩ := MI_np l7
      have e97b := l7.2.2.2.2.1
      rw [hUL] at e97b g4
      have m6 := MI_set l7 8 (nn (nu + V.length))
      rw [l5', f_X6_puts_129, if_pos xs, e97b, xcV_i] at cls
      obtain ⟨y1, u1⟩ := MI_em (N := N) (v := 103) m6 (by omega)
      obtain ⟨y2, u2⟩ := MI_em (N := N) (v := nn k) u1 (by simp only [List.length_append, List.length_cons, List.length_nil] at l3 ⊢; omega)
      obtain ⟨y3, u3⟩ := MI_em (N := N) (v := nn M2.length) u2 (by simp only [List.length_append, List.length_cons, List.length_nil] at l3 ⊢; omega)
      obtain ⟨Sr3, v1, v2⟩ := p_main_l (N := N) (by omega) M2.length 0 N _ _ (by omega) u3 (by simp only [List.length_append, List.length_cons, List.length_nil] at l3 ⊢; omega) (by omega)
      rw [l6', f_X12_puts_23.eq_2, if_pos rfl, if_pos (show nn 0 = 0 from rfl), xcV_of y1, xcV_of y2, List.length_nil, Nat.zero_add, ← hML, xcV_of y3] at ref
      have v1' : f_X12_puts_214 N N (nn M2.length) 0 _ = _ := v1
      rw [v1', f_X12_puts_238] at ref
      rcases MI_sign (N := N) v2 34 (x := 34) (c := 59) rfl rfl (by decide) (by decide) with ⟨r1, r2, r3, r4, m8⟩ | ⟨r3, r4, r5⟩
      · rw [xcV_of r3] at cls
        rw [xcI_of r4, if_pos (Or.inr rfl), xcI_i, if_pos (Or.inr rfl), xcI_i, if_pos (Or.inr rfl)] at ref
        have d14 := SI_done h m8 (by omega) (by omega) (2, 0, 0, 0, 0, scb3 nb ty kd) rfl (show ¬ tga 2 by unfold tga; decide) rfl (show 2 ≤ 50 by decide) (by
          refine Or.inr (Or.inl ⟨rfl, k, nu, V, k1, rfl, rfl, rfl, ⟨by rw [hUL]; exact Nat.le_refl _, by omega, fun j hj => ?_, fun u hu => ⟨(l8 u hu).1, MI_x m8 (l8 u hu).2⟩⟩, ?_⟩)
          · have := m8.2.2.2.2.2.2.2.2.2.2.2.2.2.2.1 j (by rw [hUL]; exact hj)
            have e5 : (([] : List (Nat × Nat)) ++ V.map uf).getD j (0, 0) = uf (V.getD j (0, 0, [])) := by
              rw [List.nil_append, List.getD_eq_getElem?_getD, List.getD_eq_getElem?_getD, List.getElem?_map]
              cases V[j]? <;> rfl
            rw [e5] at this
            exact this
          · have e6 : (V.flatMap fun v => cpu 0 v.1 v.2.2) = V.flatMap (fun u => inl u.2.2) := rfl
            rw [e6, hM, hML.symm, hM]
            simp [List.map_map]) (by simp) (by
          have : (V.flatMap fun v => cpu 0 v.1 v.2.2).length ≤ (V.flatMap fun v => cpu 0 v.1 v.2.2).length := Nat.le_refl _
          simp only [List.length_append, List.length_cons, List.length_nil, List.length_map, List.length_drop] at l3 ⊢
          omega) (show ¬ 2 = 8 by decide)
        exact so_ok (t2 := t2 + 1) (by omega) l2 cls ref d14
      · rw [xcV_oe r3] at cls
        rw [xcI_of r4, if_pos (Or.inl rfl), xcI_i, if_pos (Or.inl rfl), xcI_i, if_pos (Or.inl rfl)] at ref
        exact Or.inr ⟨_, _, cls, ref, r_bad_v r5 l2⟩
    · have l5' : f_X6_puts_40 N (f_X6_puts_16 N (N - 1)) (102 + 2 * ns) (nn 0) (nn 0) (nn 0) _ = some (rA Sc2) := l5
      have l6' : f_X12_puts_23 N N (nn k) (nn 0) _ (nn 0) (nn 0) 1 _ = _ := l6
      rw [xcV_oe l5'] at cls
      rw [xcI_of l6', if_pos (Or.inl rfl), xcI_i, if_pos (Or.inl rfl)] at ref
      exact Or.inr ⟨_, _, cls, ref, l7⟩
  · rw [xcI_oe k4] at cls
    rw [xcI_of k5, if_neg (by decide), xcI_i, if_pos (Or.inl rfl)] at ref
    exact Or.inr ⟨_, _, cls, ref, k6⟩
theorem p_set (hN : 1000 < N) (h : SI Sc Sr m s t nk nv wd nb ns ty op kd A D np nu) (hs : s t = 5) : SO m s t nk nv wd (f_X6_set N Sc) (f_X12_statement N Sr) := by
  have ht := h.1.lt (by omega) (by omega)
  obtain ⟨c1, c2, c3, c4, c5, c6, c7, c8⟩ := SI_b h
  obtain ⟨a1, m0⟩ := MI_0 (N := N) (SI_J h) (by omega) 5 (x := 5) rfl
  obtain ⟨e1, m1⟩ := MI_em (N := N) (v := 100) m0 (by simp only [List.length_nil]; omega)
  have m2 := MI_n m1 ht
  have hp := p_pass (N := N) m1.1 ht
  have h20 := m1.1.2.2.2.1
  have xs : xStep (102 + 2 * ns) := ⟨by omega, by omega, by omega⟩
  have cls : f_X6_set N Sc = xcI (f_X7_takeKind N (sI (sI (sI Sc (102 + 2 * ns) 0 (nn 5)) 97 4 (nn (ns + 1))) 1 7 (nn (t + 1)))) (fun v21 S20 => xcI (f_X6_where N ((sI S20 (102 + 2 * ns) 1 v21).1 (102 + 2 * ns) 1) (sI S20 (102 + 2 * ns) 1 v21)) (fun v24 S23 => xcV (f_X9_take N 35 (sI S23 (102 + 2 * ns) 5 v24)) (fun S25 => xcV (f_X6_puts N (102 + 2 * ns) (S25.1 (102 + 2 * ns) 1) S25) (fun S27 => xcV (f_X9_take N 34 S27) (fun S29 => some (.inl none, S29)))))) := by
    unfold f_X6_set
    rw [xcR_of a1, xcV_of hp]
    simp only [if_pos xs]
  have ref : f_X12_statement N Sr = xcI (xcI (f_X12_takeKind N (sI (em Sr (A ns + ([] : List Int32).length) 100) 503 20 (nn (t + 1)))) (fun v78 S77 => if 0 ≤ v78 then f_X12_onKind_52 N 4 v78 105 S77 else some (.inl (some (.inl 0)), S77))) (fun v S => if xbo v then some (.inl (some (.inl v)), S) else none) := by
    rw [st_on h.1 4 (by omega) hs]
    unfold f_X12_onKind
    rw [xcV_of e1, h20, nn_addl]
    rfl
  rcases MI_kind hN m2 with ⟨k, k1, k2, k3, k4, k5, m3⟩ | ⟨k4, k5, k6⟩
  · rw [xcI_of k4] at cls
    rw [xcI_of k5, if_pos (by simp (disch := omega) only [nn_add, nn_addl, l_add_nn, nn_sub, nn_subl, nn_m1, nn_mull, nn_t, nn_i, l_t, nn_lt, nn_le, nn_eq, nn_ltl, l_lt_nn, nn_lel, l_le_nn, nn_eql, l_eql, nn_nm1, xin_nn, xin_l, m1_lt, m1_le, m1_p, m1_z, dlt_T, dlt_F, dle_T, dle_F, deq_T, deq_F, sI_c, sI_n, sI_J, sI_E, sJ_c, sJ_n, sJ_I, sJ_E, sE_I, sE_J, sE_E, xcI_i, xcJ_i, xcR_i, xcV_i, xcI_e, xcJ_e, xcR_e, xcV_e, if_true, if_false, ite_true, ite_false, true_and, and_true, false_and, and_false, or_true, true_or, or_false, false_or, not_true_eq_false, not_false_eq_true, eq_self, ne_eq, ↓reduceIte, Nat.reduceEqDiff, Nat.reduceLT, Nat.reduceLeDiff, Nat.reduceAdd, Nat.reduceMul, Nat.reduceSub, Int32.reduceLT, Int32.reduceLE, reduceCtorEq])] at ref
    unfold f_X12_onKind_52 at ref
    have m4 := MI_set m3 1 (nn (k + 1))
    obtain ⟨e2, m5⟩ := MI_em (N := N) (v := 105) m4 (by simp only [List.length_append, List.length_cons, List.length_nil]; omega)
    obtain ⟨e3, m6⟩ := MI_em (N := N) (v := nn k) m5 (by simp only [List.length_append, List.length_cons, List.length_nil]; omega)
    rw [xcV_of e2, xcV_of e3] at ref
    have ek : (sI (sI (sI (sI (sI Sc (102 + 2 * ns) 0 (nn 5)) 97 4 (nn (ns + 1))) 1 7 (nn (t + 1))) 1 7 (nn (t + 1 + 1))) (102 + 2 * ns) 1 (nn (k + 1))).1 (102 + 2 * ns) 1 = nn (k + 1) := by simp (disch := omega) only [nn_add, nn_addl, l_add_nn, nn_sub, nn_subl, nn_m1, nn_mull, nn_t, nn_i, l_t, nn_lt, nn_le, nn_eq, nn_ltl, l_lt_nn, nn_lel, l_le_nn, nn_eql, l_eql, nn_nm1, xin_nn, xin_l, m1_lt, m1_le, m1_p, m1_z, dlt_T, dlt_F, dle_T, dle_F, deq_T, deq_F, sI_c, sI_n, sI_J, sI_E, sJ_c, sJ_n, sJ_I, sJ_E, sE_I, sE_J, sE_E, xcI_i, xcJ_i, xcR_i, xcV_i, xcI_e, xcJ_e, xcR_e, xcV_e, if_true, if_false, ite_true, ite_false, true_and, and_true, false_and, and_false, or_true, true_or, or_false, false_or, not_true_eq_false, not_false_eq_true, eq_self, ne_eq, ↓reduceIte, Nat.reduceEqDiff, Nat.reduceLT, Nat.reduceLeDiff, Nat.reduceAdd, Nat.reduceMul, Nat.reduceSub, Int32.reduceLT, Int32.reduceLE, reduceCtorEq]
    rw [ek] at cls
    rcases MI_where hN m6 (by simp only [List.length_append, List.length_cons, List.length_nil]; omega) k1 with ⟨t2, nv2, o, np2, Sc2, Sr2, q1, q2, q3, q4, q5, q6⟩ | ⟨Sc2, Sr2, q4, q5, q6⟩
    · rw [xcI_of q4] at cls
      rw [xcI_of q5, if_neg (by decide), if_neg (by decide)] at ref
      obtain ⟨d1, d2, d3, d4⟩ := MI_np q6
      have m7 := MI_set q6 5 (whI o)
      rcases MI_sign (N := N) m7 35 (x := 35) (c := 58) rfl rfl (by decide) (by decide) with ⟨r1, r2, r3, r4, m8⟩ | ⟨r3, r4, r5⟩
      · rw [xcV_of r3] at cls
        rw [xcI_of r4, if_neg (by decide)] at ref
        have e97 := m8.2.2.2.2.1
        have e25 := m8.2.2.2.2.2.1
        have eZ := m8.2.2.2.2.2.2.2.2.2.2.2.1
        have m9 := MI_set m8 7 (nn nu)
        obtain ⟨w1, w2⟩ := MI_em (N := N) (v := 0) m9 (by omega)
        generalize hSc : sI (sI Sc2 (102 + 2 * ns) 5 (whI o)) 1 7 (nn (t2 + 1)) = Sc3 at *
        generalize hSr : sI Sr2 503 20 (nn (t2 + 1)) = Sr3 at *
        have eZ1 : Sc3.1 (102 + 2 * ns) 1 = nn (k + 1) := by rw [eZ]; rfl
        have hcl : f_X6_puts N (102 + 2 * ns) (Sc3.1 (102 + 2 * ns) 1) Sc3 = f_X6_puts_40 N (f_X6_puts_16 N (N - 1)) (102 + 2 * ns) (nn (k + 1)) (nn 0) (nn 0) (sI Sc3 (102 + 2 * ns) 7 (nn nu)) := by
          obtain ⟨N', rfl⟩ : ∃ N', N = N' + 1 := ⟨N - 1, by omega⟩
          unfold f_X6_puts
          rw [if_pos xs, e97, eZ1, f_X6_puts_16.eq_2, if_neg (by decide), if_pos rfl]
          rfl
        generalize hLL : [] ++ [100] ++ [105] ++ [nn k] ++ whc o = LL at *
        have hrf : f_X12_puts N (nn k) 1 Sr3 = f_X12_puts_23 N N (nn k) (nn 1) (nn (A ns + LL.length)) (nn 0) (nn 0) 1 (em Sr3 (A ns + LL.length) 0) := by
          unfold f_X12_puts
          rw [if_neg (by decide), xcV_of w1, e25]
          rfl
        rw [hcl] at cls
        rw [hrf] at ref
        rcases p_puts_l (N := N) (st := 1) (rk0 := k + 1) hN (Or.inr ⟨rfl, rfl⟩) k1 (Z := fun i => if i = 7 then nn nu else (fun i => if i = 5 then whI o else (fun i => if i = 1 then nn (k + 1) else (fun i => if i = 0 then nn 5 else Sc.1 (102 + 2 * ns) i) i) i) i) rfl (nn (A ns + LL.length)) 7 (t2 + 1) nv2 0 np2 _ _ [] [] _ _ (N - 1) N w2 rfl (by decide) (fun z => absurd z (by decide)) (by decide) (by rw [List.length_append, List.length_singleton]; omega) (by simp only [List.length_nil]; omega) (by omega) (by omega) with ⟨t3, nv3, np3, V, X2, M2, n3, b2, Sc4, Sr4, l1, l2, l3, l4, l5, l6, l7, l8, l9, l10⟩ | ⟨Sc4, Sr4, l5, l6, l7⟩
        · have l5' : f_X6_puts_40 N (f_X6_puts_16 N (N - 1)) (102 + 2 * ns) (nn (k + 1)) (nn 0) (nn 0) _ = f_X6_puts_129 N (102 + 2 * ns) Sc4 := l5
          have l6' : f_X12_puts_23 N N (nn k) (nn 1) _ (nn 0) (nn 0) 1 _ = _ := l6
          rw [List.length_nil] at l4
          have hUL : (([] : List (Nat × Nat)) ++ V.map uf).length = V.length := by rw [List.nil_append, List.length_map]
          obtain ⟨g1, g2, g3, g4⟩ := MI_np l7
          have e97b := l7.2.2.2.2.1
          rw [hUL] at e97b g4
          have m10 := MI_set l7 8 (nn (nu + V.length))
          rw [l5', f_X6_puts_129, if_pos xs, e97b, xcV_i] at cls
          rw [List.append_assoc, List.singleton_append] at m10 l3
          have m11 := MI_pat (w := nn V.length) m10
          have hLb : A ns + LL.length < 3000 := by
            rw [List.length_append, List.length_cons] at l3
            omega
          rw [l6', f_X12_puts_23.eq_2, if_pos rfl, if_neg (by decide), if_pos ((xin_nn (by omega)).mpr hLb), nn_t (by omega), List.length_nil, Nat.zero_add, f_X12_puts_238] at ref
          rcases MI_sign (N := N) m11 34 (x := 34) (c := 59) rfl rfl (by decide) (by decide) with ⟨y1, y2, y3, y4, m12⟩ | ⟨y3, y4, y5⟩
          · rw [xcV_of y3] at cls
            rw [xcI_of y4, if_pos (Or.inr rfl), xcI_i, if_neg (by decide), f_X12_onKind_105, if_pos (Or.inr rfl), xcI_i, if_pos (Or.inr rfl)] at ref
            have d14 := SI_done h m12 (by omega) (by omega) (5, 0, 0, 0, 0, scb3 nb ty kd) rfl (show ¬ tga 5 by unfold tga; decide) rfl (show 5 ≤ 50 by decide) (by
              refine Or.inr (Or.inr (Or.inr (Or.inl ⟨rfl, k, o, nu, V, k1, rfl, ?_, rfl, rfl, ⟨by rw [hUL]; exact Nat.le_refl _, by omega, fun j hj => ?_, fun u hu => ⟨(l8 u hu).1, MI_x m12 (l8 u hu).2⟩⟩, ?_⟩)))
              · cases o with
                | none => exact rfl
                | some z => exact ⟨rfl, MI_x m12 (x := (k + 1, z.1, z.2)) (l9 _ List.mem_cons_self)⟩
              · have := m12.2.2.2.2.2.2.2.2.2.2.2.2.2.2.1 j (by rw [hUL]; exact hj)
                have e5 : (([] : List (Nat × Nat)) ++ V.map uf).getD j (0, 0) = uf (V.getD j (0, 0, [])) := by
                  rw [List.nil_append, List.getD_eq_getElem?_getD, List.getD_eq_getElem?_getD, List.getElem?_map]
                  cases V[j]? <;> rfl
                rw [e5] at this
                exact this
              · have e6 : (V.flatMap fun v => cpu 1 v.1 v.2.2) = V.flatMap (fun u => nn u.1 :: nn (cE u.2.2).length :: cE u.2.2) := rfl
                rw [e6, ← hLL]
                simp) (by rw [List.length_append, List.length_cons]; omega) (by
              simp only [List.length_append, List.length_cons, List.length_nil] at l3 ⊢
              omega) (show ¬ 5 = 8 by decide)
            exact so_ok (t2 := t3 + 1) (by omega) (by omega) cls ref d14
          · rw [xcV_oe y3] at cls
            rw [xcI_of y4, if_pos (Or.inl rfl), xcI_i, if_pos rfl, f_X12_onKind_104, f_X12_onKind_105, if_pos (Or.inl rfl), xcI_i, if_pos (Or.inl rfl)] at ref
            exact Or.inr ⟨_, _, cls, ref, r_bad_v y5 (by omega)⟩
        · have l5' : f_X6_puts_40 N (f_X6_puts_16 N (N - 1)) (102 + 2 * ns) (nn (k + 1)) (nn 0) (nn 0) _ = some (rA Sc4) := l5
          have l6' : f_X12_puts_23 N N (nn k) (nn 1) _ (nn 0) (nn 0) 1 _ = _ := l6
          rw [xcV_oe l5'] at cls
          rw [xcI_of l6', if_pos rfl, f_X12_onKind_104, f_X12_onKind_105, if_pos (Or.inl rfl), xcI_i, if_pos (Or.inl rfl)] at ref
          exact Or.inr ⟨_, _, cls, ref, r_bad_v l7 q2⟩
      · rw [xcV_oe r3] at cls
        rw [xcI_of r4, if_pos rfl, f_X12_onKind_104, f_X12_onKind_105, if_pos (Or.inl rfl), xcI_i, if_pos (Or.inl rfl)] at ref
        exact Or.inr ⟨_, _, cls, ref, r_bad_v r5 q2⟩
    · rw [xcI_oe q4] at cls
      rw [xcI_of q5, if_pos rfl, xcI_i, if_pos (Or.inl rfl)] at ref
      exact Or.inr ⟨_, _, cls, ref, q6⟩
  · rw [xcI_oe k4] at cls
    rw [xcI_of k5, if_neg (by decide), xcI_i, if_pos (Or.inl rfl)] at ref
    exact Or.inr ⟨_, _, cls, ref, k6⟩
end IN
