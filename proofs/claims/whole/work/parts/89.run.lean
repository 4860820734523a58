/-! 89: one turn, all turns -/
section RU
variable {N n t i C c sp ns np nu nk nv fu B sn ou : Nat} {wd A ow : Nat → Nat} {D : Nat → xD} {S Sc Sr Sc' Sr' : xS}
theorem STF_100 {Z : Nat → Int32} {d : xD} {L : List Int32} (h : STF Sc Z np nu nk nv wd d L) (h1 : ¬ d.1 = 48) (h2 : ¬ d.1 = 49) : ∃ L', L = 100 :: L' := by
  unfold STF at h
  rcases h with ⟨_, e⟩ | ⟨_, _, _, _, _, _, _, _, _, e⟩ | ⟨_, _, _, _, _, _, e⟩ | ⟨_, _, _, _, _, _, _, _, _, _, _, e⟩ | ⟨_, _, _, _, _, _, _, _, _, e⟩ | ⟨_, _, _, _, _, e⟩ | ⟨_, _, _, _, _, _, _, _, _, _, e, _⟩ | ⟨a, _⟩ | ⟨_, _, _, _, _, e⟩ | ⟨a, _⟩ | ⟨_, _, _, _, _, _, e⟩ | ⟨_, _, _, _, _, _, _, _, _, _, _, _, _, e⟩
  · exact ⟨_, e⟩
  · exact ⟨_, e⟩
  · exact ⟨_, e⟩
  · exact ⟨_, e⟩
  · exact ⟨_, e⟩
  · exact ⟨_, e⟩
  · exact ⟨_, e⟩
  · exact absurd a h1
  · exact ⟨_, e⟩
  · exact absurd a h2
  · exact ⟨_, e⟩
  · exact ⟨_, e⟩
/-- a step that is paid for -/
theorem t_paid (hN : 2000000 < N) (hB : B < 2000000000) (hi : i < ns) (h : PS ns np nu nk nv fu B wd A D i sp ow sn ou Sc Sr) (a48 : ¬ (D i).1 = 48) (a49 : ¬ (D i).1 = 49) : OUT N ns np nu nk nv fu B wd A D t 8 (fun _ q => q = sp) (fun n => f_X2_goThrough_74 N (f_X2_goThrough_14 N n) (nn (i + 1)) (nn t) (102 + 2 * i) Sc) (fun n => f_X12_run_58 N n (nn (A i + 1)) Sr) := by
  obtain ⟨s1, s2, ⟨L, s3, s4, s5, s6⟩, s7⟩ := h.1.2.2.2.2.2.2.2.2.1 i hi
  unfold STF at s3
  rcases s3 with ⟨a, e⟩ | ⟨a, k, us, U, t1, t2, t3, t4, t5, e⟩ | ⟨a, k, w, t1, t2, t3, e⟩ | ⟨a, k, w, us, U, t1, t2, t3, t4, t5, t6, e⟩ | ⟨a, v, p, E, t1, t0, t2, t3, t4, e⟩ | ⟨a, p, E, t1, t2, e⟩ | ⟨a, k, f, w, t1, t2, t3, t4, t5, t6, e, t7⟩ | ⟨a, _⟩ | ⟨a, p, E, t1, t2, e⟩ | ⟨a, _⟩ | ⟨a, k, t1, t2, t3, t4, e⟩ | ⟨a, k, f, p, E, t1, t2, t3, t4, t5, t6, t7, t8, e⟩
  · subst e
    refine OUT_m (t_kind hi h a s1 (by rw [s5, a]; rfl)) (by omega) (fun _ _ z => z)
  · subst e
    refine t_ins hN hB hi h a s1 t1 t2 t3 t4 t5 s4 ?_
    rw [s5, a, tgl_0 (by unfold tga; omega)]
    simp only [List.length_cons, List.length_append, List.length_map]
    omega
  · subst e
    refine OUT_m (t_del (by omega) hi h a s1 t1 t2 t3 s4 ?_) (by omega) (fun _ _ z => z)
    rw [s5, a, tgl_0 (by unfold tga; omega)]
    simp only [List.length_cons]
    omega
  · subst e
    refine OUT_m (t_sets (by omega) hi h a s1 t1 t2 t3 t4 t5 t6 s4 ?_) (by omega) (fun _ _ z => z)
    rw [s5, a, tgl_0 (by unfold tga; omega)]
    unfold cdp
    simp only [List.length_cons, List.length_append]
    omega
  · subst e
    refine OUT_m (t_let hN hi h a s1 ?_ t1 t0 t2 t3 t4 s4) (by omega) (fun _ _ z => z)
    rw [s5, a, tgl_0 (by unfold tga; omega)]
    simp only [List.length_cons, List.length_append, List.length_nil]
    omega
  · subst e
    refine OUT_m (t_print hN hB hi h a s1 ?_ t1 t2 s4) (by omega) (fun _ _ z => z)
    rw [s5, a, tgl_0 (by unfold tga; omega)]
    simp only [List.length_cons, List.length_append, List.length_nil]
    omega
  · subst e
    refine OUT_m (t_each (by omega) hi h a s1 t1 t2 t3 t4 t5 t6 t7 s4 ?_) (by omega) (fun _ _ z => z)
    rw [s5, a, tgl_0 (by unfold tga; omega)]
    simp only [List.length_cons]
    omega
  · exact absurd a a48
  · subst e
    obtain ⟨g1, g2⟩ := s7 (by unfold tga; omega) (fun z => z)
    refine OUT_m (t_if hN hi h a s1 ?_ t1 g1 g2 t2 s4) (by omega) (fun _ _ z => z)
    rw [s5, tgl_1 (by unfold tga; omega)]
    simp only [List.length_cons, List.length_append, List.length_nil]
    omega
  · exact absurd a a49
  · subst e
    refine OUT_m (t_rem (by omega) hi h a s1 t1 t2 t3 t4 s4 ?_) (by omega) (fun _ _ z => z)
    rw [s5, a, tgl_0 (by unfold tga; omega)]
    rfl
  · subst e
    refine OUT_m (t_chg hN hi h a s1 t1 t2 t3 t4 t5 t6 t7 t8 s4 ?_) (by omega) (fun _ _ z => z)
    rw [s5, a, tgl_0 (by unfold tga; omega)]
    simp only [List.length_cons, List.length_append, List.length_nil]
    omega
theorem t_one (hN : 2000000 < N) (hB : B < 2000000000) (hi : i < ns) (ht : t < 1000000) (h : LQ ns np nu nk nv fu B wd A D i sp Sc Sr) : OUT N ns np nu nk nv fu B wd A D t 9 (fun j q => (q = sp ∧ pot D ns j < pot D ns i) ∨ (q = sp + 1 ∧ sp < fu)) (fun n => f_X2_goThrough_14 N (n + 1) (nn i) (nn t) Sc) (fun n => f_X12_run_58 N n (nn (A i)) Sr) := by
  have h0 := h
  obtain ⟨ow, sn, ou, h1, h2, h3, h4, h5, h6, h7⟩ := h
  obtain ⟨s1, s2, ⟨L, s3, s4, s5, s6⟩, s7⟩ := h1.2.2.2.2.2.2.2.2.1 i hi
  by_cases a48 : (D i).1 = 48
  · obtain ⟨g1, g2⟩ := s7 (by unfold tga; omega) (fun z => z)
    unfold STF at s3
    have : ∃ k, Sc.1 (102 + 2 * i) 1 = nn (k + 1) ∧ Sc.1 (102 + 2 * i) 3 = nn (D i).2.2.2.1 ∧ L = [107, nn (D i).2.2.2.2.1, nn k] := by
      rcases s3 with ⟨a, _⟩ | ⟨a, _⟩ | ⟨a, _⟩ | ⟨a, _⟩ | ⟨a, _⟩ | ⟨a, _⟩ | ⟨a, _⟩ | ⟨_, e⟩ | ⟨a, _⟩ | ⟨a, _⟩ | ⟨a, _⟩ | ⟨a, _⟩
      · omega
      · omega
      · omega
      · omega
      · omega
      · omega
      · omega
      · exact e
      · omega
      · omega
      · omega
      · omega
    obtain ⟨k, z1, z3, e⟩ := this
    subst e
    exact OUT_m (t_next (by omega) hi ht a48 h0 s1 z3 g1 g2 s4 (by rw [s5, tgl_1 (by unfold tga; omega)]; rfl)) (by omega) (fun _ _ z => z)
  · by_cases a49 : (D i).1 = 49
    · obtain ⟨g1, g2⟩ := s7 (by unfold tga; omega) (fun z => z)
      unfold STF at s3
      have e : L = [111] := by
        rcases s3 with ⟨a, _⟩ | ⟨a, _⟩ | ⟨a, _⟩ | ⟨a, _⟩ | ⟨a, _⟩ | ⟨a, _⟩ | ⟨a, _⟩ | ⟨a, _⟩ | ⟨a, _⟩ | ⟨_, e⟩ | ⟨a, _⟩ | ⟨a, _⟩
        · omega
        · omega
        · omega
        · omega
        · omega
        · omega
        · omega
        · omega
        · omega
        · exact e
        · omega
        · omega
      subst e
      exact OUT_m (t_jump hi ht a49 h0 s1 g1 g2 s4 (by rw [s5, tgl_1 (by unfold tga; omega)]; rfl)) (by omega) (fun _ _ z => Or.inl z)
    · obtain ⟨L', e⟩ := STF_100 s3 a48 a49
      subst e
      have c0 : Sr.1 518 (A i) = nn 100 := (seg_hd s4).1
      rcases t_pay (N := N) h1 hi a48 a49 c0 h5 with ⟨r1, r2, r3⟩ | ⟨r1, r2, r3, r4⟩
      · exact Or.inl ⟨1, Sc, Sr, fun n => r2 n t ht, ⟨2, by omega, r3⟩, LQ_E h0⟩
      · rw [scj_lt hi] at h3
        have hnk : nk ≤ 7 := h3.1.2.2.2.2.2.2.1
        have ps : PS ns np nu nk nv fu B wd A D i (sp + 1) ow sn ou (sI Sc 409 10 (nn (sp + 1))) (sI Sr 503 36 (nn (sp + 1))) := ⟨PRG_g h1 (kpg_s (kpg_r _) (by omega)) (by simp (disch := omega) only [nn_add, nn_addl, l_add_nn, nn_sub, nn_subl, nn_m1, nn_mull, nn_t, nn_i, l_t, nn_lt, nn_le, nn_eq, nn_ltl, l_lt_nn, nn_lel, l_le_nn, nn_eql, l_eql, nn_nm1, xin_nn, xin_l, m1_lt, m1_le, m1_p, m1_z, dlt_T, dlt_F, dle_T, dle_F, deq_T, deq_F, sI_c, sI_n, sI_J, sI_E, sJ_c, sJ_n, sJ_I, sJ_E, sE_I, sE_J, sE_E, xcI_i, xcJ_i, xcR_i, xcV_i, xcI_e, xcJ_e, xcR_e, xcV_e, if_true, if_false, ite_true, ite_false, true_and, and_true, false_and, and_false, or_true, true_or, or_false, false_or, not_true_eq_false, not_false_eq_true, eq_self, ne_eq, ↓reduceIte, Nat.reduceEqDiff, Nat.reduceLT, Nat.reduceLeDiff, Nat.reduceAdd, Nat.reduceMul, Nat.reduceSub, Int32.reduceLT, Int32.reduceLE, reduceCtorEq]) (by simp (disch := omega) only [nn_add, nn_addl, l_add_nn, nn_sub, nn_subl, nn_m1, nn_mull, nn_t, nn_i, l_t, nn_lt, nn_le, nn_eq, nn_ltl, l_lt_nn, nn_lel, l_le_nn, nn_eql, l_eql, nn_nm1, xin_nn, xin_l, m1_lt, m1_le, m1_p, m1_z, dlt_T, dlt_F, dle_T, dle_F, deq_T, deq_F, sI_c, sI_n, sI_J, sI_E, sJ_c, sJ_n, sJ_I, sJ_E, sE_I, sE_J, sE_E, xcI_i, xcJ_i, xcR_i, xcV_i, xcI_e, xcJ_e, xcR_e, xcV_e, if_true, if_false, ite_true, ite_false, true_and, and_true, false_and, and_false, or_true, true_or, or_false, false_or, not_true_eq_false, not_false_eq_true, eq_self, ne_eq, ↓reduceIte, Nat.reduceEqDiff, Nat.reduceLT, Nat.reduceLeDiff, Nat.reduceAdd, Nat.reduceMul, Nat.reduceSub, Int32.reduceLT, Int32.reduceLE, reduceCtorEq]), KDS_x h2 hnk (fun q a b => by simp (disch := omega) only [nn_add, nn_addl, l_add_nn, nn_sub, nn_subl, nn_m1, nn_mull, nn_t, nn_i, l_t, nn_lt, nn_le, nn_eq, nn_ltl, l_lt_nn, nn_lel, l_le_nn, nn_eql, l_eql, nn_nm1, xin_nn, xin_l, m1_lt, m1_le, m1_p, m1_z, dlt_T, dlt_F, dle_T, dle_F, deq_T, deq_F, sI_c, sI_n, sI_J, sI_E, sJ_c, sJ_n, sJ_I, sJ_E, sE_I, sE_J, sE_E, xcI_i, xcJ_i, xcR_i, xcV_i, xcI_e, xcJ_e, xcR_e, xcV_e, if_true, if_false, ite_true, ite_false, true_and, and_true, false_and, and_false, or_true, true_or, or_false, false_or, not_true_eq_false, not_false_eq_true, eq_self, ne_eq, ↓reduceIte, Nat.reduceEqDiff, Nat.reduceLT, Nat.reduceLeDiff, Nat.reduceAdd, Nat.reduceMul, Nat.reduceSub, Int32.reduceLT, Int32.reduceLE, reduceCtorEq]) (by simp (disch := omega) only [nn_add, nn_addl, l_add_nn, nn_sub, nn_subl, nn_m1, nn_mull, nn_t, nn_i, l_t, nn_lt, nn_le, nn_eq, nn_ltl, l_lt_nn, nn_lel, l_le_nn, nn_eql, l_eql, nn_nm1, xin_nn, xin_l, m1_lt, m1_le, m1_p, m1_z, dlt_T, dlt_F, dle_T, dle_F, deq_T, deq_F, sI_c, sI_n, sI_J, sI_E, sJ_c, sJ_n, sJ_I, sJ_E, sE_I, sE_J, sE_E, xcI_i, xcJ_i, xcR_i, xcV_i, xcI_e, xcJ_e, xcR_e, xcV_e, if_true, if_false, ite_true, ite_false, true_and, and_true, false_and, and_false, or_true, true_or, or_false, false_or, not_true_eq_false, not_false_eq_true, eq_self, ne_eq, ↓reduceIte, Nat.reduceEqDiff, Nat.reduceLT, Nat.reduceLeDiff, Nat.reduceAdd, Nat.reduceMul, Nat.reduceSub, Int32.reduceLT, Int32.reduceLE, reduceCtorEq]), RT_x h3 (fun q hq => by unfold rwC at hq; simp (disch := omega) only [nn_add, nn_addl, l_add_nn, nn_sub, nn_subl, nn_m1, nn_mull, nn_t, nn_i, l_t, nn_lt, nn_le, nn_eq, nn_ltl, l_lt_nn, nn_lel, l_le_nn, nn_eql, l_eql, nn_nm1, xin_nn, xin_l, m1_lt, m1_le, m1_p, m1_z, dlt_T, dlt_F, dle_T, dle_F, deq_T, deq_F, sI_c, sI_n, sI_J, sI_E, sJ_c, sJ_n, sJ_I, sJ_E, sE_I, sE_J, sE_E, xcI_i, xcJ_i, xcR_i, xcV_i, xcI_e, xcJ_e, xcR_e, xcV_e, if_true, if_false, ite_true, ite_false, true_and, and_true, false_and, and_false, or_true, true_or, or_false, false_or, not_true_eq_false, not_false_eq_true, eq_self, ne_eq, ↓reduceIte, Nat.reduceEqDiff, Nat.reduceLT, Nat.reduceLeDiff, Nat.reduceAdd, Nat.reduceMul, Nat.reduceSub, Int32.reduceLT, Int32.reduceLE, reduceCtorEq]) rfl (fun q hq => by unfold rwR at hq; simp (disch := omega) only [nn_add, nn_addl, l_add_nn, nn_sub, nn_subl, nn_m1, nn_mull, nn_t, nn_i, l_t, nn_lt, nn_le, nn_eq, nn_ltl, l_lt_nn, nn_lel, l_le_nn, nn_eql, l_eql, nn_nm1, xin_nn, xin_l, m1_lt, m1_le, m1_p, m1_z, dlt_T, dlt_F, dle_T, dle_F, deq_T, deq_F, sI_c, sI_n, sI_J, sI_E, sJ_c, sJ_n, sJ_I, sJ_E, sE_I, sE_J, sE_E, xcI_i, xcJ_i, xcR_i, xcV_i, xcI_e, xcJ_e, xcR_e, xcV_e, if_true, if_false, ite_true, ite_false, true_and, and_true, false_and, and_false, or_true, true_or, or_false, false_or, not_true_eq_false, not_false_eq_true, eq_self, ne_eq, ↓reduceIte, Nat.reduceEqDiff, Nat.reduceLT, Nat.reduceLeDiff, Nat.reduceAdd, Nat.reduceMul, Nat.reduceSub, Int32.reduceLT, Int32.reduceLE, reduceCtorEq]) (by simp (disch := omega) only [nn_add, nn_addl, l_add_nn, nn_sub, nn_subl, nn_m1, nn_mull, nn_t, nn_i, l_t, nn_lt, nn_le, nn_eq, nn_ltl, l_lt_nn, nn_lel, l_le_nn, nn_eql, l_eql, nn_nm1, xin_nn, xin_l, m1_lt, m1_le, m1_p, m1_z, dlt_T, dlt_F, dle_T, dle_F, deq_T, deq_F, sI_c, sI_n, sI_J, sI_E, sJ_c, sJ_n, sJ_I, sJ_E, sE_I, sE_J, sE_E, xcI_i, xcJ_i, xcR_i, xcV_i, xcI_e, xcJ_e, xcR_e, xcV_e, if_true, if_false, ite_true, ite_false, true_and, and_true, false_and, and_false, or_true, true_or, or_false, false_or, not_true_eq_false, not_false_eq_true, eq_self, ne_eq, ↓reduceIte, Nat.reduceEqDiff, Nat.reduceLT, Nat.reduceLeDiff, Nat.reduceAdd, Nat.reduceMul, Nat.reduceSub, Int32.reduceLT, Int32.reduceLE, reduceCtorEq]), r4, by omega, by omega⟩
        exact OUT_m (OUT_g (c := 1) (t_paid (t := t) hN hB hi ps a48 a49) (fun n => r2 n t ht) r3) (by omega) (fun _ _ z => Or.inr ⟨z, r1⟩)
/-- all turns -/
theorem t_all (hN : 2000000 < N) (hB : B < 2000000000) : ∀ (μ i sp t n m : Nat) (Sc Sr : xS), (fu - sp) * 24 + pot D ns i < μ → i ≤ ns → t + μ ≤ 1000000 → μ ≤ n → 10 * μ ≤ m → LQ ns np nu nk nv fu B wd A D i sp Sc Sr → ∃ v Sc' Sr', f_X2_goThrough_14 N n (nn i) (nn t) Sc = some (rI v Sc') ∧ f_X12_run_58 N m (nn (A i)) Sr = some (rI v Sr') ∧ END ns np nu nk nv fu B wd A D Sc' Sr' := by
  intro μ
  induction μ with
  | zero => intro i sp t n m Sc Sr h; omega
  | succ μ ih =>
    intro i sp t n m Sc Sr hμ hi ht hn hm h
    obtain ⟨n, rfl⟩ : ∃ k, n = k + 1 := ⟨n - 1, by omega⟩
    by_cases q : i = ns
    · subst q
      obtain ⟨m, rfl⟩ : ∃ k, m = k + 1 := ⟨m - 1, by omega⟩
      have hE := LQ_E h
      obtain ⟨ow, sn, ou, h1, _⟩ := h
      have h97 := h1.2.2.2.1
      have h25 := h1.2.2.2.2.2.1
      have hA8 := h1.2.2.2.2.2.2.1
      have hns := h1.1
      refine ⟨0, Sc, Sr, ?_, ?_, hE⟩
      · rw [f_X2_goThrough_14.eq_2, if_neg (by simp (disch := omega) only [nn_add, nn_addl, l_add_nn, nn_sub, nn_subl, nn_m1, nn_mull, nn_t, nn_i, l_t, nn_lt, nn_le, nn_eq, nn_ltl, l_lt_nn, nn_lel, l_le_nn, nn_eql, l_eql, nn_nm1, xin_nn, xin_l, m1_lt, m1_le, m1_p, m1_z, dlt_T, dlt_F, dle_T, dle_F, deq_T, deq_F, sI_c, sI_n, sI_J, sI_E, sJ_c, sJ_n, sJ_I, sJ_E, sE_I, sE_J, sE_E, xcI_i, xcJ_i, xcR_i, xcV_i, xcI_e, xcJ_e, xcR_e, xcV_e, if_true, if_false, ite_true, ite_false, true_and, and_true, false_and, and_false, or_true, true_or, or_false, false_or, not_true_eq_false, not_false_eq_true, eq_self, ne_eq, ↓reduceIte, Nat.reduceEqDiff, Nat.reduceLT, Nat.reduceLeDiff, Nat.reduceAdd, Nat.reduceMul, Nat.reduceSub, Int32.reduceLT, Int32.reduceLE, reduceCtorEq] <;> omega), h97, if_pos (by simp (disch := omega) only [nn_add, nn_addl, l_add_nn, nn_sub, nn_subl, nn_m1, nn_mull, nn_t, nn_i, l_t, nn_lt, nn_le, nn_eq, nn_ltl, l_lt_nn, nn_lel, l_le_nn, nn_eql, l_eql, nn_nm1, xin_nn, xin_l, m1_lt, m1_le, m1_p, m1_z, dlt_T, dlt_F, dle_T, dle_F, deq_T, deq_F, sI_c, sI_n, sI_J, sI_E, sJ_c, sJ_n, sJ_I, sJ_E, sE_I, sE_J, sE_E, xcI_i, xcJ_i, xcR_i, xcV_i, xcI_e, xcJ_e, xcR_e, xcV_e, if_true, if_false, ite_true, ite_false, true_and, and_true, false_and, and_false, or_true, true_or, or_false, false_or, not_true_eq_false, not_false_eq_true, eq_self, ne_eq, ↓reduceIte, Nat.reduceEqDiff, Nat.reduceLT, Nat.reduceLeDiff, Nat.reduceAdd, Nat.reduceMul, Nat.reduceSub, Int32.reduceLT, Int32.reduceLE, reduceCtorEq] <;> omega)]
        rfl
      · rw [f_X12_run_58.eq_2, if_neg (by simp (disch := omega) only [nn_add, nn_addl, l_add_nn, nn_sub, nn_subl, nn_m1, nn_mull, nn_t, nn_i, l_t, nn_lt, nn_le, nn_eq, nn_ltl, l_lt_nn, nn_lel, l_le_nn, nn_eql, l_eql, nn_nm1, xin_nn, xin_l, m1_lt, m1_le, m1_p, m1_z, dlt_T, dlt_F, dle_T, dle_F, deq_T, deq_F, sI_c, sI_n, sI_J, sI_E, sJ_c, sJ_n, sJ_I, sJ_E, sE_I, sE_J, sE_E, xcI_i, xcJ_i, xcR_i, xcV_i, xcI_e, xcJ_e, xcR_e, xcV_e, if_true, if_false, ite_true, ite_false, true_and, and_true, false_and, and_false, or_true, true_or, or_false, false_or, not_true_eq_false, not_false_eq_true, eq_self, ne_eq, ↓reduceIte, Nat.reduceEqDiff, Nat.reduceLT, Nat.reduceLeDiff, Nat.reduceAdd, Nat.reduceMul, Nat.reduceSub, Int32.reduceLT, Int32.reduceLE, reduceCtorEq] <;> omega), h25, if_pos (by simp (disch := omega) only [nn_add, nn_addl, l_add_nn, nn_sub, nn_subl, nn_m1, nn_mull, nn_t, nn_i, l_t, nn_lt, nn_le, nn_eq, nn_ltl, l_lt_nn, nn_lel, l_le_nn, nn_eql, l_eql, nn_nm1, xin_nn, xin_l, m1_lt, m1_le, m1_p, m1_z, dlt_T, dlt_F, dle_T, dle_F, deq_T, deq_F, sI_c, sI_n, sI_J, sI_E, sJ_c, sJ_n, sJ_I, sJ_E, sE_I, sE_J, sE_E, xcI_i, xcJ_i, xcR_i, xcV_i, xcI_e, xcJ_e, xcR_e, xcV_e, if_true, if_false, ite_true, ite_false, true_and, and_true, false_and, and_false, or_true, true_or, or_false, false_or, not_true_eq_false, not_false_eq_true, eq_self, ne_eq, ↓reduceIte, Nat.reduceEqDiff, Nat.reduceLT, Nat.reduceLeDiff, Nat.reduceAdd, Nat.reduceMul, Nat.reduceSub, Int32.reduceLT, Int32.reduceLE, reduceCtorEq] <;> omega)]
        unfold f_X12_run_79 f_X12_run_89
        rw [if_pos (by simp (disch := omega) only [nn_add, nn_addl, l_add_nn, nn_sub, nn_subl, nn_m1, nn_mull, nn_t, nn_i, l_t, nn_lt, nn_le, nn_eq, nn_ltl, l_lt_nn, nn_lel, l_le_nn, nn_eql, l_eql, nn_nm1, xin_nn, xin_l, m1_lt, m1_le, m1_p, m1_z, dlt_T, dlt_F, dle_T, dle_F, deq_T, deq_F, sI_c, sI_n, sI_J, sI_E, sJ_c, sJ_n, sJ_I, sJ_E, sE_I, sE_J, sE_E, xcI_i, xcJ_i, xcR_i, xcV_i, xcI_e, xcJ_e, xcR_e, xcV_e, if_true, if_false, ite_true, ite_false, true_and, and_true, false_and, and_false, or_true, true_or, or_false, false_or, not_true_eq_false, not_false_eq_true, eq_self, ne_eq, ↓reduceIte, Nat.reduceEqDiff, Nat.reduceLT, Nat.reduceLeDiff, Nat.reduceAdd, Nat.reduceMul, Nat.reduceSub, Int32.reduceLT, Int32.reduceLE, reduceCtorEq] <;> omega)]
    · have h1 := h
      obtain ⟨_, _, _, hP, _⟩ := h1
      rcases t_one (N := N) (t := t) hN hB (by omega) (by omega) h with ⟨v, S1, S2, r1, ⟨c, c1, r2⟩, r3⟩ | ⟨j, sp', S1, S2, j1, r1, ⟨c, c1, r2⟩, r3, r4⟩
      · refine ⟨v, S1, S2, r1 n, ?_, r3⟩
        have := r2 (m - c)
        rw [show m - c + c = m by omega] at this
        exact this
      · have hp := pot_le hP j
        have hlt : (fu - sp') * 24 + pot D ns j < μ := by
          rcases r4 with ⟨e, hlt⟩ | ⟨e, hlt⟩
          · subst e
            omega
          · subst e
            have : (fu - sp) * 24 = (fu - (sp + 1)) * 24 + 24 := by omega
            omega
        obtain ⟨v, S3, S4, t1, t2, t3⟩ := ih j sp' (t + 1) n (m - c) S1 S2 hlt j1 (by omega) (by omega) (by omega) r3
        refine ⟨v, S3, S4, (r1 n).trans t1, ?_, t3⟩
        have := r2 (m - c)
        rw [show m - c + c = m by omega] at this
        exact this.trans t2
/-- a run -/
theorem p_run (hN : 10000000 < N) (hB : B < 2000000000) (hfu : fu ≤ 20000) (h : LQ ns np nu nk nv fu B wd A D 0 0 Sc Sr) (hA0 : A 0 = 0) : ∃ v Sc' Sr', f_X2_goThrough_14 N N 0 0 Sc = some (rI v Sc') ∧ f_X12_run_58 N N 0 Sr = some (rI v Sr') ∧ END ns np nu nk nv fu B wd A D Sc' Sr' := by
  have h1 := h
  obtain ⟨_, _, _, hP, _⟩ := h1
  have hp := pot_le hP 0
  obtain ⟨v, S1, S2, r1, r2, r3⟩ := t_all (N := N) (by omega) hB (fu * 24 + 21) 0 0 0 N N Sc Sr (by omega) (by omega) (by omega) (by omega) (by omega) h
  rw [hA0] at r2
  exact ⟨v, S1, S2, r1, r2, r3⟩
end RU
