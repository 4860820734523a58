/-! 86: the step that inserts -/
section I2
variable {N n t i C c sp ns np nu nk nv fu B sn ou p b d κ sz k f m a us w r : Nat} {wd A ow : Nat → Nat} {D : Nat → xD} {S Sc Sr Sc' Sr' : xS} {sc : Nat → Nat → Nat → Prop} {E : List xCe}
theorem val_l (hN : 2000000 < N) (hi : i < 151) : ∀ (U : List xV) (m a : Nat) (Sc Sr : xS), PRG Sc Sr ns np nu nk nv wd A D → RT Sc Sr ow nk wd sn nv sc → Sr.1 503 39 = nn m → m + U.length ≤ 6 → seg (Sr.1 518) a (U.flatMap (fun u => inl u.2.2)) → a + (U.flatMap (fun u => inl u.2.2)).length ≤ A ns → Sc.1 (102 + 2 * i) 7 = nn us → Sc.1 (102 + 2 * i) 8 = nn (us + m + U.length) → us + m + U.length ≤ 150 → (∀ j, j < U.length → Sc.1 101 (us + m + j) = nn (U.getD j (0, 0, [])).2.1) → (∀ u ∈ U, EXC Sc np 0 (sc2 sc) u.2.1 u.2.2) → (∀ j, j < m → Sc.1 414 j = Sr.1 525 j) →
    ∃ Sc' Sr', (∀ n0 n, n0 = n + U.length → f_X2_insert_12 N n0 (102 + 2 * i) 414 (nn (us + m)) Sc = f_X2_insert_12 N n (102 + 2 * i) 414 (nn (us + m + U.length)) Sc') ∧ (∀ n, f_X12_run_58 N (n + U.length) (nn a) Sr = f_X12_run_58 N n (nn (a + (U.flatMap (fun u => inl u.2.2)).length)) Sr') ∧ kvi Sc Sc' ∧ kmi Sr Sr' ∧ Sr'.1 503 39 = nn (m + U.length) ∧ ∀ j, j < m + U.length → Sc'.1 414 j = Sr'.1 525 j := by
  have xs : xStep (102 + 2 * i) := ⟨by omega, by omega, by omega⟩
  intro U
  induction U with
  | nil =>
    intro m a Sc Sr hP hR hm hm6 hs ha h7 h8 hus h101 hX hv
    exact ⟨Sc, Sr, fun n0 n e => by rw [e]; rfl, fun n => rfl, kvi_r _, kmi_r _, hm, hv⟩
  | cons u U ih =>
    intro m a Sc Sr hP hR hm hm6 hs ha h7 h8 hus h101 hX hv
    simp only [List.length_cons] at hm6 hus h8
    rw [List.flatMap_cons] at hs ha
    rw [List.length_append] at ha
    obtain ⟨s1, s2⟩ := seg_app.mp hs
    have hXu := hX u List.mem_cons_self
    have e101 : Sc.1 101 (us + m) = nn u.2.1 := h101 0 (by simp)
    obtain ⟨Sc2, c1, c2⟩ := p_valueC (N := N) (by omega) (RT_c hR) hXu hP.2.1 hP.2.2.2.2.1
    obtain ⟨Sr2, r1, r2⟩ := t_inm (p := u.2.1) hN hP hR hm (by omega) s1 (by omega) hXu
    generalize evv ow (Sc.1 410) (fun v f => Sc.1 (32 + v) f) (cvC Sc) u.2.2 = val at *
    have kc1 : kvi Sc (sI Sc2 414 m val) := kvi_t (kvi_v c2) (kvi_s (by omega))
    have kr1 : kmi Sr (sI (sI Sr2 525 m val) 503 39 (nn (m + 1))) := kmi_t (kmi_5 r2) (kmi_t (kmi_s (by omega)) (kmi_s (by omega)))
    have g5 : (sI (sI Sr2 525 m val) 503 39 (nn (m + 1))).1 518 = Sr.1 518 := kmi_q kr1 (by omega)
    have gz : (sI Sc2 414 m val).1 (102 + 2 * i) = Sc.1 (102 + 2 * i) := kvi_q kc1 (by omega) (by omega) (by omega)
    obtain ⟨S3, S4, q1, q2, q3, q4, q5, q6⟩ := ih (m + 1) (a + (inl u.2.2).length) (sI Sc2 414 m val) (sI (sI Sr2 525 m val) 503 39 (nn (m + 1))) (PRG_i hP kc1 kr1) (RT_i hR kc1 kr1) (by simp (disch := omega) only [nn_add, nn_addl, l_add_nn, nn_sub, nn_subl, nn_m1, nn_mull, nn_t, nn_i, l_t, nn_lt, nn_le, nn_eq, nn_ltl, l_lt_nn, nn_lel, l_le_nn, nn_eql, l_eql, nn_nm1, xin_nn, xin_l, m1_lt, m1_le, m1_p, m1_z, dlt_T, dlt_F, dle_T, dle_F, deq_T, deq_F, sI_c, sI_n, sI_J, sI_E, sJ_c, sJ_n, sJ_I, sJ_E, sE_I, sE_J, sE_E, xcI_i, xcJ_i, xcR_i, xcV_i, xcI_e, xcJ_e, xcR_e, xcV_e, if_true, if_false, ite_true, ite_false, true_and, and_true, false_and, and_false, or_true, true_or, or_false, false_or, not_true_eq_false, not_false_eq_true, eq_self, ne_eq, ↓reduceIte, Nat.reduceEqDiff, Nat.reduceLT, Nat.reduceLeDiff, Nat.reduceAdd, Nat.reduceMul, Nat.reduceSub, Int32.reduceLT, Int32.reduceLE, reduceCtorEq]) (by omega) (by rw [g5]; exact s2) (by omega) (by rw [gz]; exact h7) (by rw [gz, h8]; congr 1; omega) (by omega) (fun j hj => by
      rw [kvi_q kc1 (by omega) (by omega) (by omega)]
      have := h101 (j + 1) (by simp only [List.length_cons]; omega)
      rw [show us + (m + 1) + j = us + m + (j + 1) by omega, this]
      rfl) (fun x hx => EXC_g (hX x (List.mem_cons_of_mem _ hx)) (kpg_i kc1) hP.2.1) (fun j hj => by
      have e3 : Sr2.1 525 = Sr.1 525 := r2.1 525 (by decide)
      have e4 : Sc2.1 414 = Sc.1 414 := kv_q c2 (by omega) (by omega)
      by_cases z : j = m
      · simp (disch := omega) only [nn_add, nn_addl, l_add_nn, nn_sub, nn_subl, nn_m1, nn_mull, nn_t, nn_i, l_t, nn_lt, nn_le, nn_eq, nn_ltl, l_lt_nn, nn_lel, l_le_nn, nn_eql, l_eql, nn_nm1, xin_nn, xin_l, m1_lt, m1_le, m1_p, m1_z, dlt_T, dlt_F, dle_T, dle_F, deq_T, deq_F, sI_c, sI_n, sI_J, sI_E, sJ_c, sJ_n, sJ_I, sJ_E, sE_I, sE_J, sE_E, xcI_i, xcJ_i, xcR_i, xcV_i, xcI_e, xcJ_e, xcR_e, xcV_e, if_true, if_false, ite_true, ite_false, true_and, and_true, false_and, and_false, or_true, true_or, or_false, false_or, not_true_eq_false, not_false_eq_true, eq_self, ne_eq, ↓reduceIte, Nat.reduceEqDiff, Nat.reduceLT, Nat.reduceLeDiff, Nat.reduceAdd, Nat.reduceMul, Nat.reduceSub, Int32.reduceLT, Int32.reduceLE, reduceCtorEq, z]
      · simp (disch := omega) only [nn_add, nn_addl, l_add_nn, nn_sub, nn_subl, nn_m1, nn_mull, nn_t, nn_i, l_t, nn_lt, nn_le, nn_eq, nn_ltl, l_lt_nn, nn_lel, l_le_nn, nn_eql, l_eql, nn_nm1, xin_nn, xin_l, m1_lt, m1_le, m1_p, m1_z, dlt_T, dlt_F, dle_T, dle_F, deq_T, deq_F, sI_c, sI_n, sI_J, sI_E, sJ_c, sJ_n, sJ_I, sJ_E, sE_I, sE_J, sE_E, xcI_i, xcJ_i, xcR_i, xcV_i, xcI_e, xcJ_e, xcR_e, xcV_e, if_true, if_false, ite_true, ite_false, true_and, and_true, false_and, and_false, or_true, true_or, or_false, false_or, not_true_eq_false, not_false_eq_true, eq_self, ne_eq, ↓reduceIte, Nat.reduceEqDiff, Nat.reduceLT, Nat.reduceLeDiff, Nat.reduceAdd, Nat.reduceMul, Nat.reduceSub, Int32.reduceLT, Int32.reduceLE, reduceCtorEq, z, e3, e4]
        exact hv j (by omega))
    refine ⟨S3, S4, fun n0 n e => ?_, fun n => ?_, kvi_t kc1 q3, kmi_t kr1 q4, by rw [q5]; congr 1; simp only [List.length_cons]; omega, fun j hj => q6 j (by simp only [List.length_cons] at hj; omega)⟩
    · simp only [List.length_cons] at e ⊢
      have e2 : n0 = n + U.length + 1 := by omega
      rw [e2, f_X2_insert_12.eq_2, if_pos xs, h8, if_neg (by simp (disch := omega) only [nn_add, nn_addl, l_add_nn, nn_sub, nn_subl, nn_m1, nn_mull, nn_t, nn_i, l_t, nn_lt, nn_le, nn_eq, nn_ltl, l_lt_nn, nn_lel, l_le_nn, nn_eql, l_eql, nn_nm1, xin_nn, xin_l, m1_lt, m1_le, m1_p, m1_z, dlt_T, dlt_F, dle_T, dle_F, deq_T, deq_F, sI_c, sI_n, sI_J, sI_E, sJ_c, sJ_n, sJ_I, sJ_E, sE_I, sE_J, sE_E, xcI_i, xcJ_i, xcR_i, xcV_i, xcI_e, xcJ_e, xcR_e, xcV_e, if_true, if_false, ite_true, ite_false, true_and, and_true, false_and, and_false, or_true, true_or, or_false, false_or, not_true_eq_false, not_false_eq_true, eq_self, ne_eq, ↓reduceIte, Nat.reduceEqDiff, Nat.reduceLT, Nat.reduceLeDiff, Nat.reduceAdd, Nat.reduceMul, Nat.reduceSub, Int32.reduceLT, Int32.reduceLE, reduceCtorEq] <;> omega), if_pos ((xin_nn (by omega)).mpr (by omega)), nn_t (by omega), e101, xcI_of c1, if_pos (show xReg414 414 from ⟨by omega, by omega⟩), h7, nn_sub (by omega), show us + m - us = m by omega, if_pos ((xin_nn (by omega)).mpr (by omega)), nn_t (by omega), nn_addl]
      have := q1 (n + U.length) n rfl
      rw [show us + m + (U.length + 1) = us + (m + 1) + U.length by omega]
      exact this
    · simp only [List.length_cons]
      rw [show n + (U.length + 1) = n + U.length + 1 by omega, r1 (n + U.length), q2 n, List.flatMap_cons, List.length_append, Nat.add_assoc]
theorem t_ins {U : List xV} (hN : 2000000 < N) (hB : B < 2000000000) (hi : i < ns) (h : PS ns np nu nk nv fu B wd A D i sp ow sn ou Sc Sr) (ha : (D i).1 = 2) (h0 : Sc.1 (102 + 2 * i) 0 = nn (D i).1) (hk : k < nk) (z1 : Sc.1 (102 + 2 * i) 1 = nn (k + 1)) (z7 : Sc.1 (102 + 2 * i) 7 = nn us) (z8 : Sc.1 (102 + 2 * i) 8 = nn (us + U.length)) (hU : PUT Sc np nu 0 (wd k) (sc2 (D i).2.2.2.2.2) us U) (hs : seg (Sr.1 518) (A i) (100 :: (U.flatMap (fun u => inl u.2.2) ++ (103 :: nn k :: nn U.length :: U.map (fun u => nn u.1))))) (hA : A (i + 1) = A i + 4 + (U.flatMap (fun u => inl u.2.2)).length + U.length) : OUT N ns np nu nk nv fu B wd A D t 8 (fun _ q => q = sp) (fun n => f_X2_goThrough_74 N (f_X2_goThrough_14 N n) (nn (i + 1)) (nn t) (102 + 2 * i) Sc) (fun n => f_X12_run_58 N n (nn (A i + 1)) Sr) := by
  have hps := h
  obtain ⟨h1, h2, h3, h4, h5, h6⟩ := h
  have hn := h1.1
  have hnp := h1.2.1
  have hnu := h1.2.2.1
  have hA8 := h1.2.2.2.2.2.2.1
  have hnk : nk ≤ 7 := h3.1.2.2.2.2.2.2.1
  obtain ⟨hw6, hM⟩ := h2 k hk
  obtain ⟨l1, l2⟩ := PRG_lt h1 hi
  have xs : xStep (102 + 2 * i) := ⟨by omega, by omega, by omega⟩
  rw [ha] at h0
  obtain ⟨p1, p2, p3, p4⟩ := hU
  obtain ⟨_, s1⟩ := seg_hd hs
  obtain ⟨s2, s3⟩ := seg_app.mp s1
  obtain ⟨c0, s4⟩ := seg_hd s3
  obtain ⟨c1, s5⟩ := seg_hd s4
  obtain ⟨c2, s6⟩ := seg_hd s5
  obtain ⟨Sc2, Sr2, q1, q2, q3, q4, q5, q6⟩ := val_l (N := N) (i := i) (us := us) hN (by omega) U 0 (A i + 1) Sc Sr h1 h3 h4.2.2.2.2.2.2.2.2.2.2 (by omega) s2 (by omega) z7 z8 (by omega) (fun j hj => (p3 j hj).2) (fun u hu => (p4 u hu).2) (fun j hj => by omega)
  rw [Nat.zero_add] at q6
  have q1' := q1 N (N - U.length - 1 + 1) (by omega)
  rw [Nat.add_zero] at q1'
  generalize hae : A i + 1 + (U.flatMap (fun u => inl u.2.2)).length = a at *
  have kr2 : kmi Sr (sI Sr2 503 39 0) := kmi_t q4 (kmi_s (by omega))
  obtain ⟨k1, k2, k3, k4, k5, k6⟩ := PS_i hps q3 kr2 (by simp (disch := omega) only [nn_add, nn_addl, l_add_nn, nn_sub, nn_subl, nn_m1, nn_mull, nn_t, nn_i, l_t, nn_lt, nn_le, nn_eq, nn_ltl, l_lt_nn, nn_lel, l_le_nn, nn_eql, l_eql, nn_nm1, xin_nn, xin_l, m1_lt, m1_le, m1_p, m1_z, dlt_T, dlt_F, dle_T, dle_F, deq_T, deq_F, sI_c, sI_n, sI_J, sI_E, sJ_c, sJ_n, sJ_I, sJ_E, sE_I, sE_J, sE_E, xcI_i, xcJ_i, xcR_i, xcV_i, xcI_e, xcJ_e, xcR_e, xcV_e, if_true, if_false, ite_true, ite_false, true_and, and_true, false_and, and_false, or_true, true_or, or_false, false_or, not_true_eq_false, not_false_eq_true, eq_self, ne_eq, ↓reduceIte, Nat.reduceEqDiff, Nat.reduceLT, Nat.reduceLeDiff, Nat.reduceAdd, Nat.reduceMul, Nat.reduceSub, Int32.reduceLT, Int32.reduceLE, reduceCtorEq]; rfl)
  have g518 : Sr2.1 518 = Sr.1 518 := kmi_q q4 (by omega)
  have gz : Sc2.1 (102 + 2 * i) = Sc.1 (102 + 2 * i) := kvi_q q3 (by omega) (by omega) (by omega)
  have hP2 : PRG Sc2 Sr2 ns np nu nk nv wd A D := PRG_i h1 q3 q4
  have hU2 : PUT Sc2 np nu 0 (wd k) (sc2 (D i).2.2.2.2.2) us U := ⟨p1, p2, fun j hj => by rw [kvi_q q3 (q := 100) (by omega) (by omega) (by omega), kvi_q q3 (q := 101) (by omega) (by omega) (by omega)]; exact p3 j hj, fun u hu => ⟨(p4 u hu).1, EXC_g (p4 u hu).2 (kpg_i q3) hnp⟩⟩
  have cI : f_X2_insert N (102 + 2 * i) Sc = xcI (f_X10_add N (nn (k + 1)) Sc2) (fun v38 S37 => if v38 = -1 then f_X2_insert_71 N v38 S37 else xcV (f_X2_put N (102 + 2 * i) v38 414 S37) (fun S40 => f_X2_insert_71 N v38 S40)) := by
    unfold f_X2_insert
    rw [if_pos (by decide), if_pos xs, z7]
    have e0 : 414 + (0 : Int32).toNatClampNeg = 414 := rfl
    rw [e0, q1', f_X2_insert_12.eq_2, if_pos xs, gz, z8, if_pos (by simp (disch := omega) only [nn_add, nn_addl, l_add_nn, nn_sub, nn_subl, nn_m1, nn_mull, nn_t, nn_i, l_t, nn_lt, nn_le, nn_eq, nn_ltl, l_lt_nn, nn_lel, l_le_nn, nn_eql, l_eql, nn_nm1, xin_nn, xin_l, m1_lt, m1_le, m1_p, m1_z, dlt_T, dlt_F, dle_T, dle_F, deq_T, deq_F, sI_c, sI_n, sI_J, sI_E, sJ_c, sJ_n, sJ_I, sJ_E, sE_I, sE_J, sE_E, xcI_i, xcJ_i, xcR_i, xcV_i, xcI_e, xcJ_e, xcR_e, xcV_e, if_true, if_false, ite_true, ite_false, true_and, and_true, false_and, and_false, or_true, true_or, or_false, false_or, not_true_eq_false, not_false_eq_true, eq_self, ne_eq, ↓reduceIte, Nat.reduceEqDiff, Nat.reduceLT, Nat.reduceLeDiff, Nat.reduceAdd, Nat.reduceMul, Nat.reduceSub, Int32.reduceLT, Int32.reduceLE, reduceCtorEq] <;> omega), z1]
  have e5 : ∀ v, v < 64 → (sI Sr2 503 39 0).1 511 v = nn (ow v) ∧ ow v ≤ 7 := fun v hv => ⟨(k3.1.1 v hv).2, by have := (k3.1.1 v hv).1; omega⟩
  have d1 : (sI Sr2 503 39 0).1 518 (a + 1) = nn k := by simp (disch := omega) only [nn_add, nn_addl, l_add_nn, nn_sub, nn_subl, nn_m1, nn_mull, nn_t, nn_i, l_t, nn_lt, nn_le, nn_eq, nn_ltl, l_lt_nn, nn_lel, l_le_nn, nn_eql, l_eql, nn_nm1, xin_nn, xin_l, m1_lt, m1_le, m1_p, m1_z, dlt_T, dlt_F, dle_T, dle_F, deq_T, deq_F, sI_c, sI_n, sI_J, sI_E, sJ_c, sJ_n, sJ_I, sJ_E, sE_I, sE_J, sE_E, xcI_i, xcJ_i, xcR_i, xcV_i, xcI_e, xcJ_e, xcR_e, xcV_e, if_true, if_false, ite_true, ite_false, true_and, and_true, false_and, and_false, or_true, true_or, or_false, false_or, not_true_eq_false, not_false_eq_true, eq_self, ne_eq, ↓reduceIte, Nat.reduceEqDiff, Nat.reduceLT, Nat.reduceLeDiff, Nat.reduceAdd, Nat.reduceMul, Nat.reduceSub, Int32.reduceLT, Int32.reduceLE, reduceCtorEq]; rw [g518]; exact c1
  have d2 : (sI Sr2 503 39 0).1 518 (a + 2) = nn U.length := by simp (disch := omega) only [nn_add, nn_addl, l_add_nn, nn_sub, nn_subl, nn_m1, nn_mull, nn_t, nn_i, l_t, nn_lt, nn_le, nn_eq, nn_ltl, l_lt_nn, nn_lel, l_le_nn, nn_eql, l_eql, nn_nm1, xin_nn, xin_l, m1_lt, m1_le, m1_p, m1_z, dlt_T, dlt_F, dle_T, dle_F, deq_T, deq_F, sI_c, sI_n, sI_J, sI_E, sJ_c, sJ_n, sJ_I, sJ_E, sE_I, sE_J, sE_E, xcI_i, xcJ_i, xcR_i, xcV_i, xcI_e, xcJ_e, xcR_e, xcV_e, if_true, if_false, ite_true, ite_false, true_and, and_true, false_and, and_false, or_true, true_or, or_false, false_or, not_true_eq_false, not_false_eq_true, eq_self, ne_eq, ↓reduceIte, Nat.reduceEqDiff, Nat.reduceLT, Nat.reduceLeDiff, Nat.reduceAdd, Nat.reduceMul, Nat.reduceSub, Int32.reduceLT, Int32.reduceLE, reduceCtorEq]; rw [g518]; exact c2
  have rI1 : f_X12_insert N (nn a) (sI Sr2 503 39 0) = f_X12_insert_21 N N (nn a) (nn k) (nn U.length) 0 (sI Sr2 503 39 0) := by
    unfold f_X12_insert
    rw [nn_addl, nn_addl, if_pos ((xin_nn (by omega)).mpr (by omega)), if_pos ((xin_nn (by omega)).mpr (by omega)), nn_t (by omega), nn_t (by omega), d1, d2]
  have c0' : Sr2.1 518 a = nn 103 := by rw [g518]; exact c0
  have rr0 : ∀ n, f_X12_run_58 N (n + 1) (nn a) Sr2 = xcI (xcI (f_X12_insert N (nn a) (sI Sr2 503 39 0)) (fun v143 S142 => if v143 = 0 then f_X12_step_194 N (-2) S142 else if xin (nn a + 2) 3000 then f_X12_step_194 N ((nn a + 3) + (S142.1 518 ((nn a + 2).toNatClampNeg))) S142 else none)) (fun v S => f_X12_run_58 N n v S) := fun n => by
    rw [r_turn hP2 (by omega), r_disp (by omega) c0' (by decide), if_neg (by decide), if_neg (by decide), if_neg (by decide), if_pos rfl]
  rcases lstw (P := fun v => ow v = 0) 64 with ⟨w, w1, w2, w3⟩ | hfull
  · obtain ⟨S3, a1, a2, a3, a4, a5, a6, a7⟩ := p_add (N := N) (k := k) (by omega) k3.1 (by omega) w1 w2 w3
    have f3 : ∀ q, ¬ q = 29 → ¬ q = 96 → (q < 32 ∨ 95 < q) → S3.1 q = Sc2.1 q := fun q x1 x2 x3 => a2 q x1 x2 (by omega)
    have gz3 : S3.1 (102 + 2 * i) = Sc2.1 (102 + 2 * i) := f3 _ (by omega) (by omega) (by omega)
    have kp3 : kpg Sc2 S3 := fun q j hq _ => by rw [f3 q (by omega) (by omega) (by omega)]
    have hU3 : PUT S3 np nu 0 (wd k) (sc2 (D i).2.2.2.2.2) us U := ⟨p1, p2, fun j hj => by rw [f3 100 (by omega) (by omega) (by omega), f3 101 (by omega) (by omega) (by omega)]; exact hU2.2.2.1 j hj, fun u hu => ⟨(p4 u hu).1, EXC_g (hU2.2.2.2 u hu).2 kp3 hnp⟩⟩
    obtain ⟨S4, b1, b2, b3, b4⟩ := p_put (N := N) (i := i) (us := us) (r := 0) (w := w) (k := k) (by omega) (by omega) w1 (by omega) (by omega) hw6 hnu (by rw [gz3, gz]; exact z8) (by rw [gz3, gz]; exact z7) (by rw [gz3, gz]; exact z1) hU3
    obtain ⟨S6, e1, e2, e3, e4⟩ := i87_l (N := N) (a := a) (k := k) (x3 := nn U.length) (w := w) w1 6 0 N (sI (sI (sI (sI Sr2 503 39 0) 511 w (nn (k + 1))) 503 14 (nn (sn + 1))) 513 w (nn (sn + 1))) (by omega) (by omega)
    have hl : (U.map (fun u => u.1)).length = U.length := List.length_map _
    have f6 : ∀ q, ¬ q = 503 → ¬ q = 511 → ¬ q = 512 → ¬ q = 513 → S6.1 q = Sr2.1 q := fun q x1 x2 x3 x4 => by rw [e2 q x3, sI_n x4, sI_n x1, sI_n x2, sI_n x1]
    obtain ⟨S7, m1, m2, m3, m4, m5⟩ := i117_l (N := N) (a := a) (w := w) (k := k) (M := Sc2.1 (20 + (k + 1))) (by omega) w1 (by omega) (U.map (fun u => u.1)) 0 N S6 (fun q hq => by
      rw [hl] at hq
      rw [f6 518 (by omega) (by omega) (by omega) (by omega), g518, gd_map]
      have := s6 q (by rw [List.length_map]; exact hq)
      rw [gd_nn q hq] at this
      exact this) (fun f hf => by
      obtain ⟨u, hu, e⟩ := List.mem_map.mp hf
      have hfw : f < wd k := by rw [← e]; exact (p4 u hu).1
      obtain ⟨bb, y1, y2, y3, y4⟩ := (k2 k hk).2 f hfw
      refine ⟨by omega, bb, y1, y2, y3, ?_⟩
      rw [f6 508 (by omega) (by omega) (by omega) (by omega)]
      rw [sI_n (by omega)] at y4
      exact y4) (by rw [hl]; omega) (by rw [hl]; omega)
    rw [hl, Nat.zero_add] at m1
    have cI2 : f_X2_insert N (102 + 2 * i) Sc = some (rI 1 S4) := by
      have b1' : f_X2_put N (102 + 2 * i) (nn w) 414 S3 = some (rV S4) := b1
      rw [cI, xcI_of a1, if_neg (fun z => (nn_nm1 (by omega)).mp z), xcV_of b1']
      unfold f_X2_insert_71 f_X2_insert_81
      rw [if_neg (fun z => (nn_nm1 (by omega)).mp z), if_pos (Or.inr rfl)]
    have e14 : (sI Sr2 503 39 0).1 503 14 = nn sn := k3.1.2.2.2.2.2.1
    have rI2 : f_X12_insert N (nn a) (sI Sr2 503 39 0) = some (rI 1 S7) := by
      have z : f_X12_insert_21 N N (nn a) (nn k) (nn U.length) 0 (sI Sr2 503 39 0) = f_X12_insert_44 N (nn a) (nn k) (nn U.length) (nn w) (sI Sr2 503 39 0) := i21_l (N := N) (x1 := nn a) (x2 := nn k) (x3 := nn U.length) e5 (by omega) (Or.inr w2) w3 w 0 N (by omega) (by omega)
      rw [rI1, z]
      unfold f_X12_insert_44
      rw [if_neg (by simp (disch := omega) only [nn_add, nn_addl, l_add_nn, nn_sub, nn_subl, nn_m1, nn_mull, nn_t, nn_i, l_t, nn_lt, nn_le, nn_eq, nn_ltl, l_lt_nn, nn_lel, l_le_nn, nn_eql, l_eql, nn_nm1, xin_nn, xin_l, m1_lt, m1_le, m1_p, m1_z, dlt_T, dlt_F, dle_T, dle_F, deq_T, deq_F, sI_c, sI_n, sI_J, sI_E, sJ_c, sJ_n, sJ_I, sJ_E, sE_I, sE_J, sE_E, xcI_i, xcJ_i, xcR_i, xcV_i, xcI_e, xcJ_e, xcR_e, xcV_e, if_true, if_false, ite_true, ite_false, true_and, and_true, false_and, and_false, or_true, true_or, or_false, false_or, not_true_eq_false, not_false_eq_true, eq_self, ne_eq, ↓reduceIte, Nat.reduceEqDiff, Nat.reduceLT, Nat.reduceLeDiff, Nat.reduceAdd, Nat.reduceMul, Nat.reduceSub, Int32.reduceLT, Int32.reduceLE, reduceCtorEq] <;> omega), if_pos ((xin_nn (by omega)).mpr w1), nn_t (by omega), e14, nn_addl, nn_addl]
      exact e1.trans m1
    have rr : ∀ n, f_X12_run_58 N (n + (1 + U.length)) (nn (A i + 1)) Sr = f_X12_run_58 N n (nn (A (i + 1))) S7 := fun n => by
      rw [← Nat.add_assoc, q2 (n + 1), rr0 n, xcI_of rI2, if_neg (by decide), nn_addl, nn_addl, if_pos ((xin_nn (by omega)).mpr (by omega)), nn_t (by omega), m2 518 (by omega), f6 518 (by omega) (by omega) (by omega) (by omega)]
      have d2' : Sr2.1 518 (a + 2) = nn U.length := by rw [g518]; exact c2
      unfold f_X12_step_194
      rw [d2', nn_add, xcI_i, hA, ← hae, show A i + 1 + (U.flatMap (fun u => inl u.2.2)).length + 3 + U.length = A i + 4 + (U.flatMap (fun u => inl u.2.2)).length + U.length by omega]
    have gg : ∀ n, f_X2_goThrough_74 N (f_X2_goThrough_14 N n) (nn (i + 1)) (nn t) (102 + 2 * i) Sc = f_X2_goThrough_14 N n (nn (i + 1)) (nn (t + 1)) S4 := fun n => by
      rw [g_disp (by omega) h0 (by omega), if_pos rfl, xcI_of cI2, if_neg (by decide)]
      unfold f_X2_goThrough_212
      rw [nn_addl]
    have f7 : ∀ q, ¬ q = 503 → ¬ q = 511 → ¬ q = 512 → ¬ q = 513 → S7.1 q = Sr2.1 q := fun q x1 x2 x3 x4 => by rw [m2 q x3, f6 q x1 x2 x3 x4]
    have f4 : ∀ q, ¬ q = 29 → ¬ q = 96 → (q < 32 ∨ 95 < q) → S4.1 q = Sc2.1 q := fun q x1 x2 x3 => by rw [b2 q (by omega), f3 q x1 x2 x3]
    have g3 : ∀ j, ¬ j = 14 → S7.1 503 j = (sI Sr2 503 39 0).1 503 j := fun j hj => by rw [m2 503 (by omega), e2 503 (by omega), sI_n (by omega), sI_c, if_neg (by omega), sI_n (by omega)]
    have hp6 : ∀ g, g < 6 → S6.1 512 (6 * w + g) = 0 := fun g hg => by rw [e4, if_pos (by omega)]
    have rt := RT_in (k := k) (w := w) (Sc' := S4) (Sr' := S7) k3 w1 w2 hk (by omega) (fun q x1 x2 x3 x4 => by rw [b2 q x4, a2 q x2 x3 x4]) (by rw [b2 29 (by omega), a3]) (fun v => by rw [b2 96 (by omega), a4 v]) (fun j hj => by rw [b3, a6 j hj]) (fun v hv => by rw [b3, a7 v hv]) (fun q x1 x2 x3 x4 => by
      have : ¬ q = 503 := by unfold rwR at x1; omega
      rw [f7 q this x2 x3 x4, sI_n this]) (by rw [m2 503 (by omega), e2 503 (by omega)]; simp (disch := omega) only [nn_add, nn_addl, l_add_nn, nn_sub, nn_subl, nn_m1, nn_mull, nn_t, nn_i, l_t, nn_lt, nn_le, nn_eq, nn_ltl, l_lt_nn, nn_lel, l_le_nn, nn_eql, l_eql, nn_nm1, xin_nn, xin_l, m1_lt, m1_le, m1_p, m1_z, dlt_T, dlt_F, dle_T, dle_F, deq_T, deq_F, sI_c, sI_n, sI_J, sI_E, sJ_c, sJ_n, sJ_I, sJ_E, sE_I, sE_J, sE_E, xcI_i, xcJ_i, xcR_i, xcV_i, xcI_e, xcJ_e, xcR_e, xcV_e, if_true, if_false, ite_true, ite_false, true_and, and_true, false_and, and_false, or_true, true_or, or_false, false_or, not_true_eq_false, not_false_eq_true, eq_self, ne_eq, ↓reduceIte, Nat.reduceEqDiff, Nat.reduceLT, Nat.reduceLeDiff, Nat.reduceAdd, Nat.reduceMul, Nat.reduceSub, Int32.reduceLT, Int32.reduceLE, reduceCtorEq]) (fun v => by
      rw [m2 511 (by omega), e2 511 (by omega), sI_n (by omega), sI_n (by omega), sI_c]
      by_cases z : v = w
      · rw [if_pos ⟨rfl, z⟩, if_pos z]
      · rw [if_neg (fun y => z y.2), if_neg z]) (fun v => by
      rw [m2 513 (by omega), e2 513 (by omega), sI_c]
      by_cases z : v = w
      · rw [if_pos ⟨rfl, z⟩, if_pos z]
      · rw [if_neg (fun y => z y.2), if_neg z, sI_n (by omega), sI_n (by omega)]) (fun p hp => by
      rw [m4 p hp, e4 p, if_neg (by omega), sI_n (by omega), sI_n (by omega), sI_n (by omega)]) (fun g hg => by
      rw [b4, m5 g]
      refine pfl_c _ _ _ _ (fun q x1 x2 => ?_) (fun f hf => ?_) ?_
      · rw [hl] at x2
        rw [f3 (414 + 0) (by omega) (by omega) (by omega), f6 525 (by omega) (by omega) (by omega) (by omega)]
        exact q6 q (by omega)
      · rw [f3 _ (by omega) (by omega) (by omega)]
      · rw [a5 g hg, hp6 g hg]) (fun g hg hgw => by
      rw [m5 g, pfl_o _ _ _ (fun f hf z => by
        obtain ⟨u, hu, e⟩ := List.mem_map.mp hf
        have := (p4 u hu).1
        omega)]
      exact hp6 g hg)
    refine Or.inr ⟨i + 1, sp, S4, S7, hi, gg, ⟨1 + U.length, by omega, rr⟩, LQ_next (sn := sn + 1) (ou := ou) hi (by omega) (by omega) (by omega) ?_ ?_ rt ?_ (by omega) (by omega), rfl⟩
    · exact PRG_g k1 (fun q j hq _ => by rw [f4 q (by omega) (by omega) (by omega)]) (by rw [f7 518 (by omega) (by omega) (by omega) (by omega), sI_n (by omega)]) (g3 25 (by omega))
    · exact KDS_x k2 hnk (fun q a b => f4 q (by omega) (by omega) (by omega)) (by rw [f7 508 (by omega) (by omega) (by omega) (by omega), sI_n (by omega)])
    · exact RM_x k4 (f4 409 (by omega) (by omega) (by omega)) (f4 411 (by omega) (by omega) (by omega)) ⟨g3 35 (by omega), g3 36 (by omega), g3 47 (by omega), by rw [g3 39 (by omega)]; exact k4.2.2.2.2.2.2.2.2.2.2⟩ (by rw [f7 532 (by omega) (by omega) (by omega) (by omega), sI_n (by omega)])
  · have cI2 : f_X2_insert N (102 + 2 * i) Sc = some (rI 0 Sc2) := by
      rw [cI, xcI_of (p_addf (N := N) (k := k) (by omega) k3.1 hfull), if_pos rfl]
      unfold f_X2_insert_71 f_X2_insert_81
      rw [if_pos rfl, if_pos (Or.inl rfl)]
    have rI2 : f_X12_insert N (nn a) (sI Sr2 503 39 0) = some (rI 0 (sI Sr2 503 39 0)) := by
      have z : f_X12_insert_21 N N (nn a) (nn k) (nn U.length) 0 (sI Sr2 503 39 0) = f_X12_insert_44 N (nn a) (nn k) (nn U.length) (nn 64) (sI Sr2 503 39 0) := i21_l (N := N) (x1 := nn a) (x2 := nn k) (x3 := nn U.length) (w := 64) e5 (by omega) (Or.inl rfl) hfull 64 0 N (by omega) (by omega)
      rw [rI1, z]
      unfold f_X12_insert_44
      rw [if_pos (show nn 64 = 64 from rfl)]
    refine Or.inl ⟨2, Sc2, sI Sr2 503 39 0, fun n => ?_, ⟨1 + 1 + U.length, by omega, fun n => ?_⟩, ow, sn, ou, sp, k1, k2, RT_0 k3, k4, by omega, by omega⟩
    · show f_X2_goThrough_74 N (f_X2_goThrough_14 N n) (nn (i + 1)) (nn t) (102 + 2 * i) Sc = _
      rw [g_disp (by omega) h0 (by omega), if_pos rfl, xcI_of cI2, if_pos rfl]
    · show f_X12_run_58 N (n + (1 + 1 + U.length)) (nn (A i + 1)) Sr = _
      rw [show n + (1 + 1 + U.length) = n + 1 + 1 + U.length by omega, q2 (n + 1 + 1), rr0 (n + 1), xcI_of rI2, if_pos rfl]
      unfold f_X12_step_194
      rw [xcI_i]
      exact r_stop2
end I2
