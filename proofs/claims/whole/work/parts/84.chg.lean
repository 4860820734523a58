/-! 84: a field of a record is changed; values of a list -/
def kvi (S S' : xS) : Prop := (∀ q j, ¬ q = 412 → (q < 414 ∨ 477 < q) → ¬ (j = 1 ∧ agp S q) → S'.1 q j = S.1 q j) ∧ S'.2 = S.2
def kmi (S S' : xS) : Prop := (∀ q j, (q < 524 ∨ q = 526 ∨ q = 527 ∨ q = 528 ∨ q = 529 ∨ 531 < q) → ¬ (q = 503 ∧ j = 39) → S'.1 q j = S.1 q j) ∧ S'.2 = S.2
theorem kvi_r (S : xS) : kvi S S := ⟨fun _ _ _ _ _ => rfl, rfl⟩
theorem kmi_r (S : xS) : kmi S S := ⟨fun _ _ _ _ => rfl, rfl⟩
theorem kvi_v {S S' : xS} (h : kv S S') : kvi S S' := ⟨fun q j a _ b => h.1 q j a b, h.2⟩
theorem kvi_s {S : xS} {q j : Nat} {v : Int32} (hq : 414 ≤ q ∧ q ≤ 477) : kvi S (sI S q j v) := ⟨fun q' j' _ a _ => by rw [sI_n (by omega)], rfl⟩
theorem kvi_t {S S' S2 : xS} (h : kvi S S') (g : kvi S' S2) : kvi S S2 := ⟨fun q j a c b => by
  rw [g.1 q j a c (fun z => b ⟨z.1, by
    obtain ⟨_, z1, z2, z3, z4, z5, z6, z7⟩ := z
    exact ⟨z1, z2, z3, z4, z5, z6, by rw [← h.1 q 0 a c (by omega)]; exact z7⟩⟩), h.1 q j a c b], g.2.trans h.2⟩
theorem kvi_q {S S' : xS} (h : kvi S S') {q : Nat} (hq : ¬ q = 412) (h3 : q < 414 ∨ 477 < q) (h2 : q < 103 ∨ 403 < q ∨ q % 2 = 0) : S'.1 q = S.1 q := funext fun j => h.1 q j hq h3 (fun z => by
  obtain ⟨_, a1, a2, a3, _⟩ := z
  omega)
theorem kpg_i {S S' : xS} (h : kvi S S') : kpg S S' := fun q j hq hn => h.1 q j (by omega) (by omega) hn
theorem kmi_t {S S' S2 : xS} (h : kmi S S') (g : kmi S' S2) : kmi S S2 := ⟨fun q j a b => by rw [g.1 q j a b, h.1 q j a b], g.2.trans h.2⟩
theorem kmi_5 {S S' : xS} (h : k524 S S') : kmi S S' := ⟨fun q j a _ => by rw [h.1 q (by omega)], h.2⟩
theorem kmi_31 {S S' : xS} (h : k531 S S') : kmi S S' := ⟨fun q j a _ => by rw [h.1 q (by omega) (by omega)], h.2⟩
theorem kmi_s {S : xS} {q j : Nat} {v : Int32} (hq : (q = 503 ∧ j = 39) ∨ q = 524 ∨ q = 525 ∨ q = 530 ∨ q = 531) : kmi S (sI S q j v) := ⟨fun q' j' a b => by rw [sI_c, if_neg (by omega)], rfl⟩
theorem kmi_q {S S' : xS} (h : kmi S S') {q : Nat} (hq : ¬ q = 503 ∧ (q < 524 ∨ q = 526 ∨ q = 527 ∨ q = 528 ∨ q = 529 ∨ 531 < q)) : S'.1 q = S.1 q := funext fun j => h.1 q j hq.2 (by omega)
theorem kmi_3 {S S' : xS} (h : kmi S S') {j : Nat} (hj : ¬ j = 39) : S'.1 503 j = S.1 503 j := h.1 503 j (by omega) (by omega)
section CH
variable {N n t i C c sp ns np nu nk nv fu B sn ou p b d κ sz k f m a us : Nat} {wd A ow : Nat → Nat} {D : Nat → xD} {S Sc Sr Sc' Sr' : xS} {sc : Nat → Nat → Nat → Prop} {E : List xCe}
theorem PRG_i (h : PRG Sc Sr ns np nu nk nv wd A D) (hc : kvi Sc Sc') (hr : kmi Sr Sr') : PRG Sc' Sr' ns np nu nk nv wd A D := PRG_g h (kpg_i hc) (kmi_q hr (by omega)) (kmi_3 hr (by omega))
theorem RT_i (h : RT Sc Sr ow nk wd sn nv sc) (hc : kvi Sc Sc') (hr : kmi Sr Sr') : RT Sc' Sr' ow nk wd sn nv sc := RT_x h (fun q hq => kvi_q hc (by unfold rwC at hq; omega) (by unfold rwC at hq; omega) (by unfold rwC at hq; omega)) (by rw [hc.2]) (fun q hq => kmi_q hr (by unfold rwR at hq; omega)) (kmi_3 hr (by omega))
theorem KDS_i (h : KDS Sc Sr nk wd) (h7 : nk ≤ 7) (hc : kvi Sc Sc') (hr : kmi Sr Sr') : KDS Sc' Sr' nk wd := KDS_x h h7 (fun q a b => kvi_q hc (by omega) (by omega) (by omega)) (kmi_q hr (by omega))
theorem RM_i (h : RM Sc Sr fu sp ou) (hc : kvi Sc Sc') (hr : kmi Sr Sr') (h0 : Sr'.1 503 39 = nn 0) : RM Sc' Sr' fu sp ou := RM_x h (kvi_q hc (by omega) (by omega) (by omega)) (kvi_q hc (by omega) (by omega) (by omega)) ⟨kmi_3 hr (by omega), kmi_3 hr (by omega), kmi_3 hr (by omega), h0⟩ (kmi_q hr (by omega))
theorem PS_i (h : PS ns np nu nk nv fu B wd A D i sp ow sn ou Sc Sr) (hc : kvi Sc Sc') (hr : kmi Sr Sr') (h0 : Sr'.1 503 39 = nn 0) : PS ns np nu nk nv fu B wd A D i sp ow sn ou Sc' Sr' := by
  obtain ⟨h1, h2, h3, h4, h5, h6⟩ := h
  exact ⟨PRG_i h1 hc hr, KDS_i h2 h3.1.2.2.2.2.2.2.1 hc hr, RT_i h3 hc hr, RM_i h4 hc hr h0, h5, h6⟩
/-- an expression's value is put by, behind m others -/
theorem t_inm (hN : 2000000 < N) (h : PRG Sc Sr ns np nu nk nv wd A D) (hR : RT Sc Sr ow nk wd sn nv sc) (hm : Sr.1 503 39 = nn m) (hm8 : m < 8) (hs : seg (Sr.1 518) a (inl E)) (ha : a + (inl E).length ≤ A ns) (hX : EXC Sc np 0 (sc2 sc) p E) :
    ∃ Sr2, (∀ n, f_X12_run_58 N (n + 1) (nn a) Sr = f_X12_run_58 N n (nn (a + (inl E).length)) (sI (sI Sr2 525 m (evv ow (Sc.1 410) (fun v f => Sc.1 (32 + v) f) (cvC Sc) E)) 503 39 (nn (m + 1)))) ∧ k524 Sr Sr2 := by
  obtain ⟨x1, x2, x3, x4, x5⟩ := hX
  have hnp := h.2.1
  have h7 := h.2.2.2.2.2.2.1
  have hl : (inl E).length = (cE E).length + 2 := by unfold inl; simp
  have c0 : Sr.1 518 a = nn 112 := by
    have := hs 0 (by rw [hl]; omega)
    rw [Nat.add_zero] at this
    exact this
  have c1 : Sr.1 518 (a + 1) = nn (cE E).length := hs 1 (by rw [hl]; omega)
  have c2 : seg (Sr.1 518) (a + 2) (cE E) := by
    have e : inl E = [112, nn (cE E).length] ++ cE E := rfl
    rw [e] at hs
    exact (seg_app.mp hs).2
  obtain ⟨Sr2, r1, r2⟩ := p_valueR (N := N) (x1 := nn (a + 2)) (xl := nn (cE E).length) (x6 := 0) hN rfl rfl (RT_r hR) x3 x4 c2 (by omega) (by omega)
  refine ⟨Sr2, fun n => ?_, r2⟩
  have t1 : (nn (a + 1)).toNatClampNeg = a + 1 := nn_t (by omega)
  have e1 : (nn a + 1 : Int32) = nn (a + 1) := nn_addl a 1
  have e2 : (nn a + 2 : Int32) = nn (a + 2) := nn_addl a 2
  have m2 : Sr2.1 503 39 = nn m := by rw [r2.1 503 (by decide)]; exact hm
  have d1 : Sr2.1 518 (a + 1) = nn (cE E).length := by rw [r2.1 518 (by decide)]; exact c1
  rw [r_turn h (by omega), r_disp (by omega) c0 (by decide), if_neg (by decide), if_neg (by decide), if_neg (by decide), if_neg (by decide), if_neg (by decide), if_neg (by decide), if_neg (by decide), if_neg (by decide), if_neg (by decide), if_neg (by decide), if_neg (by decide), if_neg (by decide)]
  simp only [e1, e2, t1, c1, if_pos ((xin_nn (a := a + 1) (n := 3000) (by omega)).mpr (by omega))]
  rw [xcI_of r1]
  simp only [hm, m2, d1]
  rw [if_pos ((xin_nn (by omega)).mpr hm8), xcI_i, nn_add, nn_addl, hl, nn_t (by omega), show a + 2 + (cE E).length = a + ((cE E).length + 2) by omega]
theorem t_chg (hN : 2000000 < N) (hi : i < ns) (h : PS ns np nu nk nv fu B wd A D i sp ow sn ou Sc Sr) (ha : (D i).1 = 50) (h0 : Sc.1 (102 + 2 * i) 0 = nn (D i).1) (hk : k < nk) (hf : f < wd k) (z1 : Sc.1 (102 + 2 * i) 1 = nn (k + 1)) (z2 : Sc.1 (102 + 2 * i) 2 = nn f) (z3 : Sc.1 (102 + 2 * i) 3 = nn (D i).2.2.2.1) (hsc : (D i).2.2.2.2.2 (D i).2.2.2.1 (D i).2.2.2.2.1 k) (z6 : Sc.1 (102 + 2 * i) 6 = nn p) (hX : EXC Sc np 0 (sc2 (D i).2.2.2.2.2) p E) (hs : seg (Sr.1 518) (A i) (100 :: (inl E ++ [108, nn (D i).2.2.2.2.1, nn k, nn f]))) (hA : A (i + 1) = A i + (inl E).length + 5) : OUT N ns np nu nk nv fu B wd A D t 4 (fun _ q => q = sp) (fun n => f_X2_goThrough_74 N (f_X2_goThrough_14 N n) (nn (i + 1)) (nn t) (102 + 2 * i) Sc) (fun n => f_X12_run_58 N n (nn (A i + 1)) Sr) := by
  have hps := h
  obtain ⟨h1, h2, h3, h4, h5, h6⟩ := h
  have hn := h1.1
  have hnp := h1.2.1
  have h97 := h1.2.2.2.2.1
  have hA8 := h1.2.2.2.2.2.2.1
  have hnk : nk ≤ 7 := h3.1.2.2.2.2.2.2.1
  have hf6 : f < 6 := by have := (h2 k hk).1; omega
  obtain ⟨l1, l2⟩ := PRG_lt h1 hi
  rw [ha] at h0
  obtain ⟨_, s1⟩ := seg_hd hs
  obtain ⟨s2, s3⟩ := seg_app.mp s1
  obtain ⟨c0, s4⟩ := seg_hd s3
  obtain ⟨c1, s5⟩ := seg_hd s4
  obtain ⟨c2, s6⟩ := seg_hd s5
  obtain ⟨c3, _⟩ := seg_hd s6
  obtain ⟨Sc2, v1, v2⟩ := p_valueC (N := N) (by omega) (RT_c h3) hX hnp h97
  obtain ⟨Sr2, r1, r2⟩ := t_inm (p := p) hN h1 h3 h4.2.2.2.2.2.2.2.2.2.2 (by omega) s2 (by omega) hX
  generalize evv ow (Sc.1 410) (fun v f => Sc.1 (32 + v) f) (cvC Sc) E = val at *
  generalize (D i).2.2.2.1 = b at *
  generalize (D i).2.2.2.2.1 = d at *
  have xs : xStep (102 + 2 * i) := ⟨by omega, by omega, by omega⟩
  have hP3 := PRG_m (v := val) (w := nn (0 + 1)) (j := 0) h1 r2
  have e518 := r2.1 518 (by decide)
  have kr4 : kmi Sr (sI (sI (sI Sr2 525 0 val) 503 39 (nn (0 + 1))) 503 39 (nn 0)) := kmi_t (kmi_5 r2) (kmi_t (kmi_s (by omega)) (kmi_t (kmi_s (by omega)) (kmi_s (by omega))))
  obtain ⟨k1, k2, k3, k4, k5, k6⟩ := PS_i hps (kvi_v v2) kr4 (by simp (disch := omega) only [nn_add, nn_addl, l_add_nn, nn_sub, nn_subl, nn_m1, nn_mull, nn_t, nn_i, l_t, nn_lt, nn_le, nn_eq, nn_ltl, l_lt_nn, nn_lel, l_le_nn, nn_eql, l_eql, nn_nm1, xin_nn, xin_l, m1_lt, m1_le, m1_p, m1_z, dlt_T, dlt_F, dle_T, dle_F, deq_T, deq_F, sI_c, sI_n, sI_J, sI_E, sJ_c, sJ_n, sJ_I, sJ_E, sE_I, sE_J, sE_E, xcI_i, xcJ_i, xcR_i, xcV_i, xcI_e, xcJ_e, xcR_e, xcV_e, if_true, if_false, ite_true, ite_false, true_and, and_true, false_and, and_false, or_true, true_or, or_false, false_or, not_true_eq_false, not_false_eq_true, eq_self, ne_eq, ↓reduceIte, Nat.reduceEqDiff, Nat.reduceLT, Nat.reduceLeDiff, Nat.reduceAdd, Nat.reduceMul, Nat.reduceSub, Int32.reduceLT, Int32.reduceLE, reduceCtorEq])
  have g1 : Sc2.1 (102 + 2 * i) = Sc.1 (102 + 2 * i) := kv_q v2 (by omega) (by omega)
  have x0 : (sI (sI Sr2 525 0 val) 503 39 (nn (0 + 1))).1 518 (A i + 1 + (inl E).length) = nn 108 := by simp (disch := omega) only [nn_add, nn_addl, l_add_nn, nn_sub, nn_subl, nn_m1, nn_mull, nn_t, nn_i, l_t, nn_lt, nn_le, nn_eq, nn_ltl, l_lt_nn, nn_lel, l_le_nn, nn_eql, l_eql, nn_nm1, xin_nn, xin_l, m1_lt, m1_le, m1_p, m1_z, dlt_T, dlt_F, dle_T, dle_F, deq_T, deq_F, sI_c, sI_n, sI_J, sI_E, sJ_c, sJ_n, sJ_I, sJ_E, sE_I, sE_J, sE_E, xcI_i, xcJ_i, xcR_i, xcV_i, xcI_e, xcJ_e, xcR_e, xcV_e, if_true, if_false, ite_true, ite_false, true_and, and_true, false_and, and_false, or_true, true_or, or_false, false_or, not_true_eq_false, not_false_eq_true, eq_self, ne_eq, ↓reduceIte, Nat.reduceEqDiff, Nat.reduceLT, Nat.reduceLeDiff, Nat.reduceAdd, Nat.reduceMul, Nat.reduceSub, Int32.reduceLT, Int32.reduceLE, reduceCtorEq]; rw [e518]; exact c0
  obtain ⟨w, w1, w2, w3, w4, j, w5, w6, w7⟩ := cur_at (N := N) k3 hsc
  obtain ⟨bb, b1, b2, b3, b4⟩ := (k2 k hk).2 f hf
  have ca : ∀ S3, f_X2_change N (102 + 2 * i) val Sc2 = some (rV S3) → f_X2_act N (102 + 2 * i) Sc = some (rV S3) := fun S3 hS => by
    rw [a_disp (c := 50) (by omega) h0 (by decide), if_neg (by decide), if_neg (by decide), if_neg (by decide), if_neg (by decide), if_neg (by decide), if_neg (by decide), if_pos rfl, z6, xcI_of v1, xcV_of hS]
    rfl
  generalize hS4 : sI (sI (sI Sr2 525 0 val) 503 39 (nn (0 + 1))) 503 39 (nn 0) = Sr4 at *
  have rr : ∀ S5, f_X12_put N (nn (A i + 1 + (inl E).length)) (sI (sI Sr2 525 0 val) 503 39 (nn (0 + 1))) = some (rV S5) → ∀ n, f_X12_run_58 N (n + 2) (nn (A i + 1)) Sr = f_X12_run_58 N n (nn (A (i + 1))) S5 := fun S5 hS n => by
    rw [r1 (n + 1), r_turn hP3 (by omega), r_disp (by omega) x0 (by decide), if_neg (by decide), if_neg (by decide), if_neg (by decide), if_neg (by decide), if_neg (by decide), if_neg (by decide), if_neg (by decide), if_neg (by decide), if_pos rfl, xcV_of hS, xcI_i, nn_addl, hA, show A i + 1 + (inl E).length + 4 = A i + (inl E).length + 5 by omega]
  have m1 : (sI (sI Sr2 525 0 val) 503 39 (nn (0 + 1))).1 503 39 = nn 1 := by simp (disch := omega) only [nn_add, nn_addl, l_add_nn, nn_sub, nn_subl, nn_m1, nn_mull, nn_t, nn_i, l_t, nn_lt, nn_le, nn_eq, nn_ltl, l_lt_nn, nn_lel, l_le_nn, nn_eql, l_eql, nn_nm1, xin_nn, xin_l, m1_lt, m1_le, m1_p, m1_z, dlt_T, dlt_F, dle_T, dle_F, deq_T, deq_F, sI_c, sI_n, sI_J, sI_E, sJ_c, sJ_n, sJ_I, sJ_E, sE_I, sE_J, sE_E, xcI_i, xcJ_i, xcR_i, xcV_i, xcI_e, xcJ_e, xcR_e, xcV_e, if_true, if_false, ite_true, ite_false, true_and, and_true, false_and, and_false, or_true, true_or, or_false, false_or, not_true_eq_false, not_false_eq_true, eq_self, ne_eq, ↓reduceIte, Nat.reduceEqDiff, Nat.reduceLT, Nat.reduceLeDiff, Nat.reduceAdd, Nat.reduceMul, Nat.reduceSub, Int32.reduceLT, Int32.reduceLE, reduceCtorEq]
  have d1 : (sI (sI Sr2 525 0 val) 503 39 (nn (0 + 1))).1 518 (A i + 1 + (inl E).length + 1) = nn d := by simp (disch := omega) only [nn_add, nn_addl, l_add_nn, nn_sub, nn_subl, nn_m1, nn_mull, nn_t, nn_i, l_t, nn_lt, nn_le, nn_eq, nn_ltl, l_lt_nn, nn_lel, l_le_nn, nn_eql, l_eql, nn_nm1, xin_nn, xin_l, m1_lt, m1_le, m1_p, m1_z, dlt_T, dlt_F, dle_T, dle_F, deq_T, deq_F, sI_c, sI_n, sI_J, sI_E, sJ_c, sJ_n, sJ_I, sJ_E, sE_I, sE_J, sE_E, xcI_i, xcJ_i, xcR_i, xcV_i, xcI_e, xcJ_e, xcR_e, xcV_e, if_true, if_false, ite_true, ite_false, true_and, and_true, false_and, and_false, or_true, true_or, or_false, false_or, not_true_eq_false, not_false_eq_true, eq_self, ne_eq, ↓reduceIte, Nat.reduceEqDiff, Nat.reduceLT, Nat.reduceLeDiff, Nat.reduceAdd, Nat.reduceMul, Nat.reduceSub, Int32.reduceLT, Int32.reduceLE, reduceCtorEq]; rw [e518]; exact c1
  have d2 : Sr4.1 518 (A i + 1 + (inl E).length + 2) = nn k := by rw [← hS4]; simp (disch := omega) only [nn_add, nn_addl, l_add_nn, nn_sub, nn_subl, nn_m1, nn_mull, nn_t, nn_i, l_t, nn_lt, nn_le, nn_eq, nn_ltl, l_lt_nn, nn_lel, l_le_nn, nn_eql, l_eql, nn_nm1, xin_nn, xin_l, m1_lt, m1_le, m1_p, m1_z, dlt_T, dlt_F, dle_T, dle_F, deq_T, deq_F, sI_c, sI_n, sI_J, sI_E, sJ_c, sJ_n, sJ_I, sJ_E, sE_I, sE_J, sE_E, xcI_i, xcJ_i, xcR_i, xcV_i, xcI_e, xcJ_e, xcR_e, xcV_e, if_true, if_false, ite_true, ite_false, true_and, and_true, false_and, and_false, or_true, true_or, or_false, false_or, not_true_eq_false, not_false_eq_true, eq_self, ne_eq, ↓reduceIte, Nat.reduceEqDiff, Nat.reduceLT, Nat.reduceLeDiff, Nat.reduceAdd, Nat.reduceMul, Nat.reduceSub, Int32.reduceLT, Int32.reduceLE, reduceCtorEq]; rw [e518]; exact c2
  have d3 : Sr4.1 518 (A i + 1 + (inl E).length + 3) = nn f := by rw [← hS4]; simp (disch := omega) only [nn_add, nn_addl, l_add_nn, nn_sub, nn_subl, nn_m1, nn_mull, nn_t, nn_i, l_t, nn_lt, nn_le, nn_eq, nn_ltl, l_lt_nn, nn_lel, l_le_nn, nn_eql, l_eql, nn_nm1, xin_nn, xin_l, m1_lt, m1_le, m1_p, m1_z, dlt_T, dlt_F, dle_T, dle_F, deq_T, deq_F, sI_c, sI_n, sI_J, sI_E, sJ_c, sJ_n, sJ_I, sJ_E, sE_I, sE_J, sE_E, xcI_i, xcJ_i, xcR_i, xcV_i, xcI_e, xcJ_e, xcR_e, xcV_e, if_true, if_false, ite_true, ite_false, true_and, and_true, false_and, and_false, or_true, true_or, or_false, false_or, not_true_eq_false, not_false_eq_true, eq_self, ne_eq, ↓reduceIte, Nat.reduceEqDiff, Nat.reduceLT, Nat.reduceLeDiff, Nat.reduceAdd, Nat.reduceMul, Nat.reduceSub, Int32.reduceLT, Int32.reduceLE, reduceCtorEq]; rw [e518]; exact c3
  have d4 : Sr4.1 525 0 = val := by rw [← hS4]; simp (disch := omega) only [nn_add, nn_addl, l_add_nn, nn_sub, nn_subl, nn_m1, nn_mull, nn_t, nn_i, l_t, nn_lt, nn_le, nn_eq, nn_ltl, l_lt_nn, nn_lel, l_le_nn, nn_eql, l_eql, nn_nm1, xin_nn, xin_l, m1_lt, m1_le, m1_p, m1_z, dlt_T, dlt_F, dle_T, dle_F, deq_T, deq_F, sI_c, sI_n, sI_J, sI_E, sJ_c, sJ_n, sJ_I, sJ_E, sE_I, sE_J, sE_E, xcI_i, xcJ_i, xcR_i, xcV_i, xcI_e, xcJ_e, xcR_e, xcV_e, if_true, if_false, ite_true, ite_false, true_and, and_true, false_and, and_false, or_true, true_or, or_false, false_or, not_true_eq_false, not_false_eq_true, eq_self, ne_eq, ↓reduceIte, Nat.reduceEqDiff, Nat.reduceLT, Nat.reduceLeDiff, Nat.reduceAdd, Nat.reduceMul, Nat.reduceSub, Int32.reduceLT, Int32.reduceLE, reduceCtorEq]
  have d5 : Sr4.1 503 39 = nn 0 := by rw [← hS4]; simp (disch := omega) only [nn_add, nn_addl, l_add_nn, nn_sub, nn_subl, nn_m1, nn_mull, nn_t, nn_i, l_t, nn_lt, nn_le, nn_eq, nn_ltl, l_lt_nn, nn_lel, l_le_nn, nn_eql, l_eql, nn_nm1, xin_nn, xin_l, m1_lt, m1_le, m1_p, m1_z, dlt_T, dlt_F, dle_T, dle_F, deq_T, deq_F, sI_c, sI_n, sI_J, sI_E, sJ_c, sJ_n, sJ_I, sJ_E, sE_I, sE_J, sE_E, xcI_i, xcJ_i, xcR_i, xcV_i, xcI_e, xcJ_e, xcR_e, xcV_e, if_true, if_false, ite_true, ite_false, true_and, and_true, false_and, and_false, or_true, true_or, or_false, false_or, not_true_eq_false, not_false_eq_true, eq_self, ne_eq, ↓reduceIte, Nat.reduceEqDiff, Nat.reduceLT, Nat.reduceLeDiff, Nat.reduceAdd, Nat.reduceMul, Nat.reduceSub, Int32.reduceLT, Int32.reduceLE, reduceCtorEq]
  have t1 : (nn (A i + 1 + (inl E).length + 1)).toNatClampNeg = A i + 1 + (inl E).length + 1 := nn_t (by omega)
  have t2 : (nn (A i + 1 + (inl E).length + 2)).toNatClampNeg = A i + 1 + (inl E).length + 2 := nn_t (by omega)
  have t3 : (nn (A i + 1 + (inl E).length + 3)).toNatClampNeg = A i + 1 + (inl E).length + 3 := nn_t (by omega)
  have pu : ∀ q, f_X12_cursorThere N (nn d) Sr4 = q → f_X12_put N (nn (A i + 1 + (inl E).length)) (sI (sI Sr2 525 0 val) 503 39 (nn (0 + 1))) = xcI q (fun v S26 => if v = 0 then f_X12_put_89 N S26 else
    if xin ((64 * nn d) + (S26.1 529 d)) 768 then
    if xin (S26.1 503 39) 8 then
    xcI (f_X12_cut N (S26.1 518 (A i + 1 + (inl E).length + 2)) (S26.1 518 (A i + 1 + (inl E).length + 3)) (S26.1 525 ((S26.1 503 39).toNatClampNeg)) S26) (fun v35 S34 =>
    if xin ((6 * (S26.1 526 (((64 * nn d) + (S26.1 529 d)).toNatClampNeg))) + (S26.1 518 (A i + 1 + (inl E).length + 3))) 384 then
    f_X12_put_89 N (sI S34 512 (((6 * (S26.1 526 (((64 * nn d) + (S26.1 529 d)).toNatClampNeg))) + (S26.1 518 (A i + 1 + (inl E).length + 3))).toNatClampNeg) v35)
    else none)
    else none
    else none) := fun q hq => by
    unfold f_X12_put
    simp only [m1, show nn 1 - 1 = nn 0 from rfl, hS4, nn_addl, t1, d1, t2, t3, hq, show (nn d).toNatClampNeg = d from nn_t (by omega), if_pos ((xin_nn (a := A i + 1 + (inl E).length + 1) (n := 3000) (by omega)).mpr (by omega)), if_pos ((xin_nn (a := A i + 1 + (inl E).length + 2) (n := 3000) (by omega)).mpr (by omega)), if_pos ((xin_nn (a := A i + 1 + (inl E).length + 3) (n := 3000) (by omega)).mpr (by omega)), if_pos ((xin_nn (a := d) (n := 12) (by omega)).mpr w4)]
  rcases w2 with ⟨y1, y2, y3⟩ | ⟨y1, y2⟩
  · have cc : f_X2_change N (102 + 2 * i) val Sc2 = some (rV (sI Sc2 (32 + w) f (val &&& (ll (2 ^ bb - 1)).toInt32))) := by
      unfold f_X2_change
      rw [if_pos xs, g1, z3, xcI_of y1, if_neg (fun z => (nn_nm1 (by omega)).mp z), g1, z1, z2, if_pos ((xin_nn (by omega)).mpr w1), if_pos ((xin_nn (by omega)).mpr (by omega)), if_pos ((xin_nn (by omega)).mpr hf6), nn_t (by omega), nn_t (by omega), nn_t (by omega), b3]
      rfl
    have rc : f_X12_put N (nn (A i + 1 + (inl E).length)) (sI (sI Sr2 525 0 val) 503 39 (nn (0 + 1))) = some (rV (sI Sr4 512 (6 * w + f) (val &&& (ll (2 ^ bb - 1)).toInt32))) := by
      rw [pu _ y2, xcI_i, if_neg (by decide), w6, nn_mull, nn_add, if_pos ((xin_nn (by omega)).mpr (by omega)), d5, if_pos (by decide), nn_t (a := 64 * d + j) (by omega), w7, d3, d2, show (nn 0).toNatClampNeg = 0 from rfl, d4, xcI_of (p_kut b1 b2 (by omega) hf6 b4), nn_mull, nn_add, if_pos ((xin_nn (by omega)).mpr (by omega)), nn_t (a := 6 * w + f) (by omega)]
      rfl
    have rt : RT (sI Sc2 (32 + w) f (val &&& (ll (2 ^ bb - 1)).toInt32)) (sI Sr4 512 (6 * w + f) (val &&& (ll (2 ^ bb - 1)).toInt32)) ow nk wd sn nv (D i).2.2.2.2.2 := by
      refine RT_st k3 (fun q h1 h2 => by rw [sI_n (by omega)]) rfl (fun q h1 h2 => by rw [sI_n (by omega)]) (by simp (disch := omega) only [nn_add, nn_addl, l_add_nn, nn_sub, nn_subl, nn_m1, nn_mull, nn_t, nn_i, l_t, nn_lt, nn_le, nn_eq, nn_ltl, l_lt_nn, nn_lel, l_le_nn, nn_eql, l_eql, nn_nm1, xin_nn, xin_l, m1_lt, m1_le, m1_p, m1_z, dlt_T, dlt_F, dle_T, dle_F, deq_T, deq_F, sI_c, sI_n, sI_J, sI_E, sJ_c, sJ_n, sJ_I, sJ_E, sE_I, sE_J, sE_E, xcI_i, xcJ_i, xcR_i, xcV_i, xcI_e, xcJ_e, xcR_e, xcV_e, if_true, if_false, ite_true, ite_false, true_and, and_true, false_and, and_false, or_true, true_or, or_false, false_or, not_true_eq_false, not_false_eq_true, eq_self, ne_eq, ↓reduceIte, Nat.reduceEqDiff, Nat.reduceLT, Nat.reduceLeDiff, Nat.reduceAdd, Nat.reduceMul, Nat.reduceSub, Int32.reduceLT, Int32.reduceLE, reduceCtorEq]) (fun v hv h0 => ⟨fun g hg => ?_, fun g hg hw => ?_⟩)
      · rw [sI_c, sI_c]
        by_cases z : v = w ∧ g = f
        · rw [if_pos (by omega), if_pos (by omega)]
        · rw [if_neg (by omega), if_neg (by omega)]
          exact (k3.1.2.2.1 v hv h0).1 g hg
      · rw [sI_c, if_neg (fun z => by
          have e1 : v = w := by omega
          rw [e1, y3, show k + 1 - 1 = k by omega] at hw
          omega)]
        exact (k3.1.2.2.1 v hv h0).2.1 g hg hw
    refine OUT_n (sn := sn) (ou := ou) (Sc := sI Sc2 (32 + w) f (val &&& (ll (2 ^ bb - 1)).toInt32)) (Sr := sI Sr4 512 (6 * w + f) (val &&& (ll (2 ^ bb - 1)).toInt32)) hi (by omega) (by omega) (by omega) (fun n => g_act (c := 50) (by omega) h0 (by decide) (by decide) (by decide) (by decide) (by decide) (by decide) (ca _ cc)) ⟨2, by omega, rr _ rc⟩ ?_ ?_ rt ?_ (by omega) (by omega)
    · exact PRG_g k1 (kpg_s (kpg_r _) (by omega)) (by simp (disch := omega) only [nn_add, nn_addl, l_add_nn, nn_sub, nn_subl, nn_m1, nn_mull, nn_t, nn_i, l_t, nn_lt, nn_le, nn_eq, nn_ltl, l_lt_nn, nn_lel, l_le_nn, nn_eql, l_eql, nn_nm1, xin_nn, xin_l, m1_lt, m1_le, m1_p, m1_z, dlt_T, dlt_F, dle_T, dle_F, deq_T, deq_F, sI_c, sI_n, sI_J, sI_E, sJ_c, sJ_n, sJ_I, sJ_E, sE_I, sE_J, sE_E, xcI_i, xcJ_i, xcR_i, xcV_i, xcI_e, xcJ_e, xcR_e, xcV_e, if_true, if_false, ite_true, ite_false, true_and, and_true, false_and, and_false, or_true, true_or, or_false, false_or, not_true_eq_false, not_false_eq_true, eq_self, ne_eq, ↓reduceIte, Nat.reduceEqDiff, Nat.reduceLT, Nat.reduceLeDiff, Nat.reduceAdd, Nat.reduceMul, Nat.reduceSub, Int32.reduceLT, Int32.reduceLE, reduceCtorEq]) (by simp (disch := omega) only [nn_add, nn_addl, l_add_nn, nn_sub, nn_subl, nn_m1, nn_mull, nn_t, nn_i, l_t, nn_lt, nn_le, nn_eq, nn_ltl, l_lt_nn, nn_lel, l_le_nn, nn_eql, l_eql, nn_nm1, xin_nn, xin_l, m1_lt, m1_le, m1_p, m1_z, dlt_T, dlt_F, dle_T, dle_F, deq_T, deq_F, sI_c, sI_n, sI_J, sI_E, sJ_c, sJ_n, sJ_I, sJ_E, sE_I, sE_J, sE_E, xcI_i, xcJ_i, xcR_i, xcV_i, xcI_e, xcJ_e, xcR_e, xcV_e, if_true, if_false, ite_true, ite_false, true_and, and_true, false_and, and_false, or_true, true_or, or_false, false_or, not_true_eq_false, not_false_eq_true, eq_self, ne_eq, ↓reduceIte, Nat.reduceEqDiff, Nat.reduceLT, Nat.reduceLeDiff, Nat.reduceAdd, Nat.reduceMul, Nat.reduceSub, Int32.reduceLT, Int32.reduceLE, reduceCtorEq])
    · exact KDS_x k2 hnk (fun q a b => by rw [sI_n (by omega)]) (by rw [sI_n (by omega)])
    · exact RM_x k4 (by rw [sI_n (by omega)]) (by rw [sI_n (by omega)]) ⟨by simp (disch := omega) only [nn_add, nn_addl, l_add_nn, nn_sub, nn_subl, nn_m1, nn_mull, nn_t, nn_i, l_t, nn_lt, nn_le, nn_eq, nn_ltl, l_lt_nn, nn_lel, l_le_nn, nn_eql, l_eql, nn_nm1, xin_nn, xin_l, m1_lt, m1_le, m1_p, m1_z, dlt_T, dlt_F, dle_T, dle_F, deq_T, deq_F, sI_c, sI_n, sI_J, sI_E, sJ_c, sJ_n, sJ_I, sJ_E, sE_I, sE_J, sE_E, xcI_i, xcJ_i, xcR_i, xcV_i, xcI_e, xcJ_e, xcR_e, xcV_e, if_true, if_false, ite_true, ite_false, true_and, and_true, false_and, and_false, or_true, true_or, or_false, false_or, not_true_eq_false, not_false_eq_true, eq_self, ne_eq, ↓reduceIte, Nat.reduceEqDiff, Nat.reduceLT, Nat.reduceLeDiff, Nat.reduceAdd, Nat.reduceMul, Nat.reduceSub, Int32.reduceLT, Int32.reduceLE, reduceCtorEq], by simp (disch := omega) only [nn_add, nn_addl, l_add_nn, nn_sub, nn_subl, nn_m1, nn_mull, nn_t, nn_i, l_t, nn_lt, nn_le, nn_eq, nn_ltl, l_lt_nn, nn_lel, l_le_nn, nn_eql, l_eql, nn_nm1, xin_nn, xin_l, m1_lt, m1_le, m1_p, m1_z, dlt_T, dlt_F, dle_T, dle_F, deq_T, deq_F, sI_c, sI_n, sI_J, sI_E, sJ_c, sJ_n, sJ_I, sJ_E, sE_I, sE_J, sE_E, xcI_i, xcJ_i, xcR_i, xcV_i, xcI_e, xcJ_e, xcR_e, xcV_e, if_true, if_false, ite_true, ite_false, true_and, and_true, false_and, and_false, or_true, true_or, or_false, false_or, not_true_eq_false, not_false_eq_true, eq_self, ne_eq, ↓reduceIte, Nat.reduceEqDiff, Nat.reduceLT, Nat.reduceLeDiff, Nat.reduceAdd, Nat.reduceMul, Nat.reduceSub, Int32.reduceLT, Int32.reduceLE, reduceCtorEq], by simp (disch := omega) only [nn_add, nn_addl, l_add_nn, nn_sub, nn_subl, nn_m1, nn_mull, nn_t, nn_i, l_t, nn_lt, nn_le, nn_eq, nn_ltl, l_lt_nn, nn_lel, l_le_nn, nn_eql, l_eql, nn_nm1, xin_nn, xin_l, m1_lt, m1_le, m1_p, m1_z, dlt_T, dlt_F, dle_T, dle_F, deq_T, deq_F, sI_c, sI_n, sI_J, sI_E, sJ_c, sJ_n, sJ_I, sJ_E, sE_I, sE_J, sE_E, xcI_i, xcJ_i, xcR_i, xcV_i, xcI_e, xcJ_e, xcR_e, xcV_e, if_true, if_false, ite_true, ite_false, true_and, and_true, false_and, and_false, or_true, true_or, or_false, false_or, not_true_eq_false, not_false_eq_true, eq_self, ne_eq, ↓reduceIte, Nat.reduceEqDiff, Nat.reduceLT, Nat.reduceLeDiff, Nat.reduceAdd, Nat.reduceMul, Nat.reduceSub, Int32.reduceLT, Int32.reduceLE, reduceCtorEq], by simp (disch := omega) only [nn_add, nn_addl, l_add_nn, nn_sub, nn_subl, nn_m1, nn_mull, nn_t, nn_i, l_t, nn_lt, nn_le, nn_eq, nn_ltl, l_lt_nn, nn_lel, l_le_nn, nn_eql, l_eql, nn_nm1, xin_nn, xin_l, m1_lt, m1_le, m1_p, m1_z, dlt_T, dlt_F, dle_T, dle_F, deq_T, deq_F, sI_c, sI_n, sI_J, sI_E, sJ_c, sJ_n, sJ_I, sJ_E, sE_I, sE_J, sE_E, xcI_i, xcJ_i, xcR_i, xcV_i, xcI_e, xcJ_e, xcR_e, xcV_e, if_true, if_false, ite_true, ite_false, true_and, and_true, false_and, and_false, or_true, true_or, or_false, false_or, not_true_eq_false, not_false_eq_true, eq_self, ne_eq, ↓reduceIte, Nat.reduceEqDiff, Nat.reduceLT, Nat.reduceLeDiff, Nat.reduceAdd, Nat.reduceMul, Nat.reduceSub, Int32.reduceLT, Int32.reduceLE, reduceCtorEq]; exact k4.2.2.2.2.2.2.2.2.2.2⟩ (by simp (disch := omega) only [nn_add, nn_addl, l_add_nn, nn_sub, nn_subl, nn_m1, nn_mull, nn_t, nn_i, l_t, nn_lt, nn_le, nn_eq, nn_ltl, l_lt_nn, nn_lel, l_le_nn, nn_eql, l_eql, nn_nm1, xin_nn, xin_l, m1_lt, m1_le, m1_p, m1_z, dlt_T, dlt_F, dle_T, dle_F, deq_T, deq_F, sI_c, sI_n, sI_J, sI_E, sJ_c, sJ_n, sJ_I, sJ_E, sE_I, sE_J, sE_E, xcI_i, xcJ_i, xcR_i, xcV_i, xcI_e, xcJ_e, xcR_e, xcV_e, if_true, if_false, ite_true, ite_false, true_and, and_true, false_and, and_false, or_true, true_or, or_false, false_or, not_true_eq_false, not_false_eq_true, eq_self, ne_eq, ↓reduceIte, Nat.reduceEqDiff, Nat.reduceLT, Nat.reduceLeDiff, Nat.reduceAdd, Nat.reduceMul, Nat.reduceSub, Int32.reduceLT, Int32.reduceLE, reduceCtorEq])
  · have cc : f_X2_change N (102 + 2 * i) val Sc2 = some (rV Sc2) := by
      unfold f_X2_change
      rw [if_pos xs, g1, z3, xcI_of y1, if_pos rfl]
      rfl
    have rc : f_X12_put N (nn (A i + 1 + (inl E).length)) (sI (sI Sr2 525 0 val) 503 39 (nn (0 + 1))) = some (rV Sr4) := by
      rw [pu _ y2, xcI_i, if_pos rfl]
      rfl
    exact OUT_n hi (by omega) (by omega) (by omega) (fun n => g_act (c := 50) (by omega) h0 (by decide) (by decide) (by decide) (by decide) (by decide) (by decide) (ca _ cc)) ⟨2, by omega, rr _ rc⟩ k1 k2 k3 k4 (by omega) (by omega)
end CH
