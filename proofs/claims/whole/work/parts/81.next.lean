/-! 81: a cursor goes on -/
def kc (c b : Nat) (S S' : xS) : Prop := (∀ q j, ¬ (q = c ∧ j = b) → S'.1 q j = S.1 q j) ∧ S'.2 = S.2
theorem kc_r (c b : Nat) (S : xS) : kc c b S S := ⟨fun _ _ _ => rfl, rfl⟩
theorem kc_t {c b : Nat} {A B D : xS} (h : kc c b A B) (g : kc c b B D) : kc c b A D := ⟨fun q j a => (g.1 q j a).trans (h.1 q j a), g.2.trans h.2⟩
theorem kc_s {c b : Nat} {S : xS} {v : Int32} : kc c b S (sI S c b v) := ⟨fun q j a => by rw [sI_c, if_neg a], rfl⟩
theorem kc_q {c b q : Nat} {S S' : xS} (h : kc c b S S') (hq : ¬ q = c) : S'.1 q = S.1 q := funext fun j => h.1 q j (fun z => hq z.1)
section NX
variable {N n t i C c sp ns np nu nk nv fu B sn ou p b d κ sz : Nat} {wd A ow : Nat → Nat} {D : Nat → xD} {Sc Sr Sc' Sr' : xS} {sc : Nat → Nat → Nat → Prop}
theorem DBR_at {w u : Nat} (h : DBR Sc Sr ow nk wd sn) (hw : w < 64) (hu : 1 ≤ u) (hu2 : u ≤ sn) : Sc.1 96 w = nn u ↔ (¬ Sr.1 511 w = 0 ∧ Sr.1 513 w = nn u) := by
  obtain ⟨d1, d2, d3, d4, d5, d6, d7, d8⟩ := h
  have hn := (d1 w hw).1
  by_cases q : ow w = 0
  · rw [d4 w hw q, (d1 w hw).2, q]
    refine ⟨fun z => ?_, fun z => absurd rfl z.1⟩
    have := (nn_eq (a := 0) (by omega) (by omega)).mp z
    omega
  · obtain ⟨_, _, u', e1, e2, e3, e4⟩ := d3 w hw q
    rw [e3, e4, (d1 w hw).2]
    refine ⟨fun z => ⟨by simp (disch := omega) only [nn_add, nn_addl, l_add_nn, nn_sub, nn_subl, nn_m1, nn_mull, nn_t, nn_i, l_t, nn_lt, nn_le, nn_eq, nn_ltl, l_lt_nn, nn_lel, l_le_nn, nn_eql, l_eql, nn_nm1, xin_nn, xin_l, m1_lt, m1_le, m1_p, m1_z, dlt_T, dlt_F, dle_T, dle_F, deq_T, deq_F, sI_c, sI_n, sI_J, sI_E, sJ_c, sJ_n, sJ_I, sJ_E, sE_I, sE_J, sE_E, xcI_i, xcJ_i, xcR_i, xcV_i, xcI_e, xcJ_e, xcR_e, xcV_e, if_true, if_false, ite_true, ite_false, true_and, and_true, false_and, and_false, or_true, true_or, or_false, false_or, not_true_eq_false, not_false_eq_true, eq_self, ne_eq, ↓reduceIte, Nat.reduceEqDiff, Nat.reduceLT, Nat.reduceLeDiff, Nat.reduceAdd, Nat.reduceMul, Nat.reduceSub, Int32.reduceLT, Int32.reduceLE, reduceCtorEq], z⟩, fun z => z.2⟩
theorem CRW_k {b' d' : Nat} (h : CRW Sc Sr ow sn b d κ sz) (hb : b < 10) (h1 : kc 502 b' Sc Sc') (h2 : kc 529 d' Sr Sr') : CRW Sc' Sr' ow sn b d κ sz := by
  obtain ⟨a4, a5, a6, a7⟩ := h
  refine ⟨a4, by rw [kc_q h1 (by omega)]; exact a5, by rw [kc_q h2 (by omega)]; exact a6, fun j hj => ?_⟩
  rw [kc_q h1 (q := 480 + b) (by omega), kc_q h1 (q := 491 + b) (by omega), kc_q h1 (q := 96) (by omega), kc_q h2 (q := 526) (by omega), kc_q h2 (q := 527) (by omega)]
  exact a7 j hj
theorem DBR_k {b' d' : Nat} (h : DBR Sc Sr ow nk wd sn) (h1 : kc 502 b' Sc Sc') (h2 : kc 529 d' Sr Sr') : DBR Sc' Sr' ow nk wd sn :=
  DBR_y h (fun q a b => kc_q h1 (by omega)) (by rw [h1.2]) (fun q a b => kc_q h2 (by omega)) (by rw [kc_q h2 (by omega)])
theorem CST_k {b' d' : Nat} (h : CST Sc Sr ow sn b d κ) (hb : b < 10) (hb' : ¬ b = b') (hd' : ¬ d = d') (h1 : kc 502 b' Sc Sc') (h2 : kc 529 d' Sr Sr') : CST Sc' Sr' ow sn b d κ := by
  obtain ⟨k, sz, a1, a2, a3, a4⟩ := h
  exact ⟨k, sz, a1, by rw [h1.1 _ _ (by omega)]; exact a2, by rw [h2.1 _ _ (by omega)]; exact a3, CRW_k a4 hb h1 h2⟩
theorem nx_l (hb : b < 10) (hd : d < 12) : ∀ (e j n m : Nat) (Sc Sr : xS), j + e = sz → DBR Sc Sr ow nk wd sn → CRW Sc Sr ow sn b d κ sz → Sr.1 529 d = nn j → e < n → e < m →
    ∃ Sc' Sr' v, f_X0_moves_9 N n (nn b) (nn j) Sc = some (rI v Sc') ∧ f_X12_nextEach_14 N m (nn d) Sr = some (rI v Sr') ∧ kc 502 b Sc Sc' ∧ kc 529 d Sr Sr' ∧ (v = 0 ∨ (v = 1 ∧ ∃ k, k < sz ∧ Sc'.1 502 b = nn k ∧ Sr'.1 529 d = nn k)) := by
  have eb : (nn b).toNatClampNeg = b := nn_t (by omega)
  have ed : (nn d).toNatClampNeg = d := nn_t (by omega)
  have xb : xin (nn b) 10 := (xin_nn (by omega)).mpr hb
  have xd : xin (nn d) 12 := (xin_nn (by omega)).mpr hd
  intro e
  induction e with
  | zero =>
    intro j n m Sc Sr hj hD hC h529 hn hm
    obtain ⟨n, rfl⟩ : ∃ k, n = k + 1 := ⟨n - 1, by omega⟩
    obtain ⟨m, rfl⟩ : ∃ k, m = k + 1 := ⟨m - 1, by omega⟩
    obtain ⟨a4, a5, a6, a7⟩ := hC
    refine ⟨Sc, Sr, 0, ?_, ?_, kc_r _ _ _, kc_r _ _ _, Or.inl rfl⟩
    · rw [f_X0_moves_9.eq_2, if_pos xb, eb, a5, if_pos (by simp (disch := omega) only [nn_add, nn_addl, l_add_nn, nn_sub, nn_subl, nn_m1, nn_mull, nn_t, nn_i, l_t, nn_lt, nn_le, nn_eq, nn_ltl, l_lt_nn, nn_lel, l_le_nn, nn_eql, l_eql, nn_nm1, xin_nn, xin_l, m1_lt, m1_le, m1_p, m1_z, dlt_T, dlt_F, dle_T, dle_F, deq_T, deq_F, sI_c, sI_n, sI_J, sI_E, sJ_c, sJ_n, sJ_I, sJ_E, sE_I, sE_J, sE_E, xcI_i, xcJ_i, xcR_i, xcV_i, xcI_e, xcJ_e, xcR_e, xcV_e, if_true, if_false, ite_true, ite_false, true_and, and_true, false_and, and_false, or_true, true_or, or_false, false_or, not_true_eq_false, not_false_eq_true, eq_self, ne_eq, ↓reduceIte, Nat.reduceEqDiff, Nat.reduceLT, Nat.reduceLeDiff, Nat.reduceAdd, Nat.reduceMul, Nat.reduceSub, Int32.reduceLT, Int32.reduceLE, reduceCtorEq] <;> omega)]
    · rw [f_X12_nextEach_14.eq_2, if_pos xd, ed, a6, h529, if_pos (by simp (disch := omega) only [nn_add, nn_addl, l_add_nn, nn_sub, nn_subl, nn_m1, nn_mull, nn_t, nn_i, l_t, nn_lt, nn_le, nn_eq, nn_ltl, l_lt_nn, nn_lel, l_le_nn, nn_eql, l_eql, nn_nm1, xin_nn, xin_l, m1_lt, m1_le, m1_p, m1_z, dlt_T, dlt_F, dle_T, dle_F, deq_T, deq_F, sI_c, sI_n, sI_J, sI_E, sJ_c, sJ_n, sJ_I, sJ_E, sE_I, sE_J, sE_E, xcI_i, xcJ_i, xcR_i, xcV_i, xcI_e, xcJ_e, xcR_e, xcV_e, if_true, if_false, ite_true, ite_false, true_and, and_true, false_and, and_false, or_true, true_or, or_false, false_or, not_true_eq_false, not_false_eq_true, eq_self, ne_eq, ↓reduceIte, Nat.reduceEqDiff, Nat.reduceLT, Nat.reduceLeDiff, Nat.reduceAdd, Nat.reduceMul, Nat.reduceSub, Int32.reduceLT, Int32.reduceLE, reduceCtorEq] <;> omega)]
      unfold f_X12_nextEach_54 f_X12_nextEach_74
      rw [if_pos xd, ed, a6, h529, if_pos (by simp (disch := omega) only [nn_add, nn_addl, l_add_nn, nn_sub, nn_subl, nn_m1, nn_mull, nn_t, nn_i, l_t, nn_lt, nn_le, nn_eq, nn_ltl, l_lt_nn, nn_lel, l_le_nn, nn_eql, l_eql, nn_nm1, xin_nn, xin_l, m1_lt, m1_le, m1_p, m1_z, dlt_T, dlt_F, dle_T, dle_F, deq_T, deq_F, sI_c, sI_n, sI_J, sI_E, sJ_c, sJ_n, sJ_I, sJ_E, sE_I, sE_J, sE_E, xcI_i, xcJ_i, xcR_i, xcV_i, xcI_e, xcJ_e, xcR_e, xcV_e, if_true, if_false, ite_true, ite_false, true_and, and_true, false_and, and_false, or_true, true_or, or_false, false_or, not_true_eq_false, not_false_eq_true, eq_self, ne_eq, ↓reduceIte, Nat.reduceEqDiff, Nat.reduceLT, Nat.reduceLeDiff, Nat.reduceAdd, Nat.reduceMul, Nat.reduceSub, Int32.reduceLT, Int32.reduceLE, reduceCtorEq] <;> omega), if_pos (Or.inl rfl)]
  | succ e ih =>
    intro j n m Sc Sr hj hD hC h529 hn hm
    obtain ⟨n, rfl⟩ : ∃ k, n = k + 1 := ⟨n - 1, by omega⟩
    obtain ⟨m, rfl⟩ : ∃ k, m = k + 1 := ⟨m - 1, by omega⟩
    have hC0 := hC
    obtain ⟨a4, a5, a6, a7⟩ := hC
    obtain ⟨w, u, b1, b2, b3, b4, b5, b6, b7, b8⟩ := a7 j (by omega)
    have k1 : kc 502 b Sc (sI Sc 502 b (nn j)) := kc_s
    have ha := p_at (N := N) (S := sI Sc 502 b (nn j)) (b := b) (k := j) (wd := w) hb (by omega) b1 (by simp (disch := omega) only [nn_add, nn_addl, l_add_nn, nn_sub, nn_subl, nn_m1, nn_mull, nn_t, nn_i, l_t, nn_lt, nn_le, nn_eq, nn_ltl, l_lt_nn, nn_lel, l_le_nn, nn_eql, l_eql, nn_nm1, xin_nn, xin_l, m1_lt, m1_le, m1_p, m1_z, dlt_T, dlt_F, dle_T, dle_F, deq_T, deq_F, sI_c, sI_n, sI_J, sI_E, sJ_c, sJ_n, sJ_I, sJ_E, sE_I, sE_J, sE_E, xcI_i, xcJ_i, xcR_i, xcV_i, xcI_e, xcJ_e, xcR_e, xcV_e, if_true, if_false, ite_true, ite_false, true_and, and_true, false_and, and_false, or_true, true_or, or_false, false_or, not_true_eq_false, not_false_eq_true, eq_self, ne_eq, ↓reduceIte, Nat.reduceEqDiff, Nat.reduceLT, Nat.reduceLeDiff, Nat.reduceAdd, Nat.reduceMul, Nat.reduceSub, Int32.reduceLT, Int32.reduceLE, reduceCtorEq]) (by simp (disch := omega) only [nn_add, nn_addl, l_add_nn, nn_sub, nn_subl, nn_m1, nn_mull, nn_t, nn_i, l_t, nn_lt, nn_le, nn_eq, nn_ltl, l_lt_nn, nn_lel, l_le_nn, nn_eql, l_eql, nn_nm1, xin_nn, xin_l, m1_lt, m1_le, m1_p, m1_z, dlt_T, dlt_F, dle_T, dle_F, deq_T, deq_F, sI_c, sI_n, sI_J, sI_E, sJ_c, sJ_n, sJ_I, sJ_E, sE_I, sE_J, sE_E, xcI_i, xcJ_i, xcR_i, xcV_i, xcI_e, xcJ_e, xcR_e, xcV_e, if_true, if_false, ite_true, ite_false, true_and, and_true, false_and, and_false, or_true, true_or, or_false, false_or, not_true_eq_false, not_false_eq_true, eq_self, ne_eq, ↓reduceIte, Nat.reduceEqDiff, Nat.reduceLT, Nat.reduceLeDiff, Nat.reduceAdd, Nat.reduceMul, Nat.reduceSub, Int32.reduceLT, Int32.reduceLE, reduceCtorEq]; exact b4)
    have hh := p_there (N := N) (S := Sr) (d := d) (k := j) (wd := w) hd (by omega) b1 h529 b5
    have e96 : (sI Sc 502 b (nn j)).1 96 w = Sc.1 96 w := by simp (disch := omega) only [nn_add, nn_addl, l_add_nn, nn_sub, nn_subl, nn_m1, nn_mull, nn_t, nn_i, l_t, nn_lt, nn_le, nn_eq, nn_ltl, l_lt_nn, nn_lel, l_le_nn, nn_eql, l_eql, nn_nm1, xin_nn, xin_l, m1_lt, m1_le, m1_p, m1_z, dlt_T, dlt_F, dle_T, dle_F, deq_T, deq_F, sI_c, sI_n, sI_J, sI_E, sJ_c, sJ_n, sJ_I, sJ_E, sE_I, sE_J, sE_E, xcI_i, xcJ_i, xcR_i, xcV_i, xcI_e, xcJ_e, xcR_e, xcV_e, if_true, if_false, ite_true, ite_false, true_and, and_true, false_and, and_false, or_true, true_or, or_false, false_or, not_true_eq_false, not_false_eq_true, eq_self, ne_eq, ↓reduceIte, Nat.reduceEqDiff, Nat.reduceLT, Nat.reduceLeDiff, Nat.reduceAdd, Nat.reduceMul, Nat.reduceSub, Int32.reduceLT, Int32.reduceLE, reduceCtorEq]
    have e491 : (sI Sc 502 b (nn j)).1 (491 + b) j = nn u := by simp (disch := omega) only [nn_add, nn_addl, l_add_nn, nn_sub, nn_subl, nn_m1, nn_mull, nn_t, nn_i, l_t, nn_lt, nn_le, nn_eq, nn_ltl, l_lt_nn, nn_lel, l_le_nn, nn_eql, l_eql, nn_nm1, xin_nn, xin_l, m1_lt, m1_le, m1_p, m1_z, dlt_T, dlt_F, dle_T, dle_F, deq_T, deq_F, sI_c, sI_n, sI_J, sI_E, sJ_c, sJ_n, sJ_I, sJ_E, sE_I, sE_J, sE_E, xcI_i, xcJ_i, xcR_i, xcV_i, xcI_e, xcJ_e, xcR_e, xcV_e, if_true, if_false, ite_true, ite_false, true_and, and_true, false_and, and_false, or_true, true_or, or_false, false_or, not_true_eq_false, not_false_eq_true, eq_self, ne_eq, ↓reduceIte, Nat.reduceEqDiff, Nat.reduceLT, Nat.reduceLeDiff, Nat.reduceAdd, Nat.reduceMul, Nat.reduceSub, Int32.reduceLT, Int32.reduceLE, reduceCtorEq]; exact b6
    rw [e96, e491] at ha
    rw [b7] at hh
    by_cases q : Sc.1 96 w = nn u
    · obtain ⟨q1, q2⟩ := (DBR_at hD b1 b2 b3).mp q
      rw [if_pos q] at ha
      rw [if_neg q1, if_pos q2] at hh
      refine ⟨_, Sr, 1, ?_, ?_, k1, kc_r _ _ _, Or.inr ⟨rfl, j, by omega, by simp (disch := omega) only [nn_add, nn_addl, l_add_nn, nn_sub, nn_subl, nn_m1, nn_mull, nn_t, nn_i, l_t, nn_lt, nn_le, nn_eq, nn_ltl, l_lt_nn, nn_lel, l_le_nn, nn_eql, l_eql, nn_nm1, xin_nn, xin_l, m1_lt, m1_le, m1_p, m1_z, dlt_T, dlt_F, dle_T, dle_F, deq_T, deq_F, sI_c, sI_n, sI_J, sI_E, sJ_c, sJ_n, sJ_I, sJ_E, sE_I, sE_J, sE_E, xcI_i, xcJ_i, xcR_i, xcV_i, xcI_e, xcJ_e, xcR_e, xcV_e, if_true, if_false, ite_true, ite_false, true_and, and_true, false_and, and_false, or_true, true_or, or_false, false_or, not_true_eq_false, not_false_eq_true, eq_self, ne_eq, ↓reduceIte, Nat.reduceEqDiff, Nat.reduceLT, Nat.reduceLeDiff, Nat.reduceAdd, Nat.reduceMul, Nat.reduceSub, Int32.reduceLT, Int32.reduceLE, reduceCtorEq], h529⟩⟩
      · rw [f_X0_moves_9.eq_2, if_pos xb, eb, a5, if_neg (by simp (disch := omega) only [nn_add, nn_addl, l_add_nn, nn_sub, nn_subl, nn_m1, nn_mull, nn_t, nn_i, l_t, nn_lt, nn_le, nn_eq, nn_ltl, l_lt_nn, nn_lel, l_le_nn, nn_eql, l_eql, nn_nm1, xin_nn, xin_l, m1_lt, m1_le, m1_p, m1_z, dlt_T, dlt_F, dle_T, dle_F, deq_T, deq_F, sI_c, sI_n, sI_J, sI_E, sJ_c, sJ_n, sJ_I, sJ_E, sE_I, sE_J, sE_E, xcI_i, xcJ_i, xcR_i, xcV_i, xcI_e, xcJ_e, xcR_e, xcV_e, if_true, if_false, ite_true, ite_false, true_and, and_true, false_and, and_false, or_true, true_or, or_false, false_or, not_true_eq_false, not_false_eq_true, eq_self, ne_eq, ↓reduceIte, Nat.reduceEqDiff, Nat.reduceLT, Nat.reduceLeDiff, Nat.reduceAdd, Nat.reduceMul, Nat.reduceSub, Int32.reduceLT, Int32.reduceLE, reduceCtorEq] <;> omega), xcI_of ha, if_neg (by
          intro z
          exact (nn_nm1 (by omega)).mp z)]
      · rw [f_X12_nextEach_14.eq_2, if_pos xd, ed, a6, h529, if_neg (by simp (disch := omega) only [nn_add, nn_addl, l_add_nn, nn_sub, nn_subl, nn_m1, nn_mull, nn_t, nn_i, l_t, nn_lt, nn_le, nn_eq, nn_ltl, l_lt_nn, nn_lel, l_le_nn, nn_eql, l_eql, nn_nm1, xin_nn, xin_l, m1_lt, m1_le, m1_p, m1_z, dlt_T, dlt_F, dle_T, dle_F, deq_T, deq_F, sI_c, sI_n, sI_J, sI_E, sJ_c, sJ_n, sJ_I, sJ_E, sE_I, sE_J, sE_E, xcI_i, xcJ_i, xcR_i, xcV_i, xcI_e, xcJ_e, xcR_e, xcV_e, if_true, if_false, ite_true, ite_false, true_and, and_true, false_and, and_false, or_true, true_or, or_false, false_or, not_true_eq_false, not_false_eq_true, eq_self, ne_eq, ↓reduceIte, Nat.reduceEqDiff, Nat.reduceLT, Nat.reduceLeDiff, Nat.reduceAdd, Nat.reduceMul, Nat.reduceSub, Int32.reduceLT, Int32.reduceLE, reduceCtorEq] <;> omega), xcI_of hh, if_neg (by decide)]
        unfold f_X12_nextEach_54 f_X12_nextEach_74
        rw [if_pos xd, ed, a6, h529, if_neg (by simp (disch := omega) only [nn_add, nn_addl, l_add_nn, nn_sub, nn_subl, nn_m1, nn_mull, nn_t, nn_i, l_t, nn_lt, nn_le, nn_eq, nn_ltl, l_lt_nn, nn_lel, l_le_nn, nn_eql, l_eql, nn_nm1, xin_nn, xin_l, m1_lt, m1_le, m1_p, m1_z, dlt_T, dlt_F, dle_T, dle_F, deq_T, deq_F, sI_c, sI_n, sI_J, sI_E, sJ_c, sJ_n, sJ_I, sJ_E, sE_I, sE_J, sE_E, xcI_i, xcJ_i, xcR_i, xcV_i, xcI_e, xcJ_e, xcR_e, xcV_e, if_true, if_false, ite_true, ite_false, true_and, and_true, false_and, and_false, or_true, true_or, or_false, false_or, not_true_eq_false, not_false_eq_true, eq_self, ne_eq, ↓reduceIte, Nat.reduceEqDiff, Nat.reduceLT, Nat.reduceLeDiff, Nat.reduceAdd, Nat.reduceMul, Nat.reduceSub, Int32.reduceLT, Int32.reduceLE, reduceCtorEq] <;> omega), if_pos (Or.inr rfl)]
    · have q1 : (if Sr.1 511 w = 0 then (0 : Int32) else if Sr.1 513 w = nn u then 1 else 0) = 0 := by
        by_cases r1 : Sr.1 511 w = 0
        · rw [if_pos r1]
        · by_cases r2 : Sr.1 513 w = nn u
          · exact absurd ((DBR_at hD b1 b2 b3).mpr ⟨r1, r2⟩) q
          · rw [if_neg r1, if_neg r2]
      rw [if_neg q] at ha
      rw [q1] at hh
      have k2 : kc 529 d Sr (sI Sr 529 d (nn (j + 1))) := kc_s
      obtain ⟨Sc2, Sr2, v, r1, r2, r3, r4, r5⟩ := ih (j + 1) n m (sI Sc 502 b (nn j)) (sI Sr 529 d (nn (j + 1))) (by omega) (DBR_k hD k1 k2) (CRW_k hC0 hb k1 k2) (by simp (disch := omega) only [nn_add, nn_addl, l_add_nn, nn_sub, nn_subl, nn_m1, nn_mull, nn_t, nn_i, l_t, nn_lt, nn_le, nn_eq, nn_ltl, l_lt_nn, nn_lel, l_le_nn, nn_eql, l_eql, nn_nm1, xin_nn, xin_l, m1_lt, m1_le, m1_p, m1_z, dlt_T, dlt_F, dle_T, dle_F, deq_T, deq_F, sI_c, sI_n, sI_J, sI_E, sJ_c, sJ_n, sJ_I, sJ_E, sE_I, sE_J, sE_E, xcI_i, xcJ_i, xcR_i, xcV_i, xcI_e, xcJ_e, xcR_e, xcV_e, if_true, if_false, ite_true, ite_false, true_and, and_true, false_and, and_false, or_true, true_or, or_false, false_or, not_true_eq_false, not_false_eq_true, eq_self, ne_eq, ↓reduceIte, Nat.reduceEqDiff, Nat.reduceLT, Nat.reduceLeDiff, Nat.reduceAdd, Nat.reduceMul, Nat.reduceSub, Int32.reduceLT, Int32.reduceLE, reduceCtorEq]) (by omega) (by omega)
      refine ⟨Sc2, Sr2, v, ?_, ?_, kc_t k1 r3, kc_t k2 r4, r5⟩
      · rw [f_X0_moves_9.eq_2, if_pos xb, eb, a5, if_neg (by simp (disch := omega) only [nn_add, nn_addl, l_add_nn, nn_sub, nn_subl, nn_m1, nn_mull, nn_t, nn_i, l_t, nn_lt, nn_le, nn_eq, nn_ltl, l_lt_nn, nn_lel, l_le_nn, nn_eql, l_eql, nn_nm1, xin_nn, xin_l, m1_lt, m1_le, m1_p, m1_z, dlt_T, dlt_F, dle_T, dle_F, deq_T, deq_F, sI_c, sI_n, sI_J, sI_E, sJ_c, sJ_n, sJ_I, sJ_E, sE_I, sE_J, sE_E, xcI_i, xcJ_i, xcR_i, xcV_i, xcI_e, xcJ_e, xcR_e, xcV_e, if_true, if_false, ite_true, ite_false, true_and, and_true, false_and, and_false, or_true, true_or, or_false, false_or, not_true_eq_false, not_false_eq_true, eq_self, ne_eq, ↓reduceIte, Nat.reduceEqDiff, Nat.reduceLT, Nat.reduceLeDiff, Nat.reduceAdd, Nat.reduceMul, Nat.reduceSub, Int32.reduceLT, Int32.reduceLE, reduceCtorEq] <;> omega), xcI_of ha, if_pos rfl, nn_addl]
        exact r1
      · rw [f_X12_nextEach_14.eq_2, if_pos xd, ed, a6, h529, if_neg (by simp (disch := omega) only [nn_add, nn_addl, l_add_nn, nn_sub, nn_subl, nn_m1, nn_mull, nn_t, nn_i, l_t, nn_lt, nn_le, nn_eq, nn_ltl, l_lt_nn, nn_lel, l_le_nn, nn_eql, l_eql, nn_nm1, xin_nn, xin_l, m1_lt, m1_le, m1_p, m1_z, dlt_T, dlt_F, dle_T, dle_F, deq_T, deq_F, sI_c, sI_n, sI_J, sI_E, sJ_c, sJ_n, sJ_I, sJ_E, sE_I, sE_J, sE_E, xcI_i, xcJ_i, xcR_i, xcV_i, xcI_e, xcJ_e, xcR_e, xcV_e, if_true, if_false, ite_true, ite_false, true_and, and_true, false_and, and_false, or_true, true_or, or_false, false_or, not_true_eq_false, not_false_eq_true, eq_self, ne_eq, ↓reduceIte, Nat.reduceEqDiff, Nat.reduceLT, Nat.reduceLeDiff, Nat.reduceAdd, Nat.reduceMul, Nat.reduceSub, Int32.reduceLT, Int32.reduceLE, reduceCtorEq] <;> omega), xcI_of hh, if_pos rfl, h529, nn_addl]
        exact r2
theorem nx (hN : 1000 < N) (hb : b < 10) (hd : d < 12) (hD : DBR Sc Sr ow nk wd sn) (hC : CBG Sc Sr ow sn b d κ) : ∃ Sc' Sr' v, f_X0_moves N (nn b) Sc = some (rI v Sc') ∧ f_X12_nextEach N (nn d) Sr = some (rI v Sr') ∧ kc 502 b Sc Sc' ∧ kc 529 d Sr Sr' ∧ (v = 0 ∨ (v = 1 ∧ CST Sc' Sr' ow sn b d κ)) := by
  obtain ⟨a, sz, h1, h2, h3, h4⟩ := hC
  have hs := h4.1
  have k2 : kc 529 d Sr (sI Sr 529 d (nn a)) := kc_s
  obtain ⟨Sc', Sr', v, r1, r2, r3, r4, r5⟩ := nx_l (N := N) hb hd (sz - a) a N N Sc (sI Sr 529 d (nn a)) (by omega) (DBR_k hD (kc_r 502 b Sc) k2) (CRW_k h4 hb (kc_r 502 b Sc) k2) (by simp (disch := omega) only [nn_add, nn_addl, l_add_nn, nn_sub, nn_subl, nn_m1, nn_mull, nn_t, nn_i, l_t, nn_lt, nn_le, nn_eq, nn_ltl, l_lt_nn, nn_lel, l_le_nn, nn_eql, l_eql, nn_nm1, xin_nn, xin_l, m1_lt, m1_le, m1_p, m1_z, dlt_T, dlt_F, dle_T, dle_F, deq_T, deq_F, sI_c, sI_n, sI_J, sI_E, sJ_c, sJ_n, sJ_I, sJ_E, sE_I, sE_J, sE_E, xcI_i, xcJ_i, xcR_i, xcV_i, xcI_e, xcJ_e, xcR_e, xcV_e, if_true, if_false, ite_true, ite_false, true_and, and_true, false_and, and_false, or_true, true_or, or_false, false_or, not_true_eq_false, not_false_eq_true, eq_self, ne_eq, ↓reduceIte, Nat.reduceEqDiff, Nat.reduceLT, Nat.reduceLeDiff, Nat.reduceAdd, Nat.reduceMul, Nat.reduceSub, Int32.reduceLT, Int32.reduceLE, reduceCtorEq]) (by omega) (by omega)
  refine ⟨Sc', Sr', v, ?_, ?_, r3, kc_t k2 r4, ?_⟩
  · unfold f_X0_moves
    rw [if_pos ((xin_nn (by omega)).mpr hb), nn_t (by omega), h2, Int32.sub_add_cancel]
    exact r1
  · unfold f_X12_nextEach
    rw [if_pos ((xin_nn (by omega)).mpr hd), nn_t (by omega), h3, Int32.sub_add_cancel]
    exact r2
  · rcases r5 with r5 | ⟨r5, k, z1, z2, z3⟩
    · exact Or.inl r5
    · exact Or.inr ⟨r5, k, sz, z1, z2, z3, CRW_k h4 hb r3 (kc_t k2 r4)⟩
theorem t_next {k : Nat} (hN : 1000 < N) (hi : i < ns) (ht : t < 1000000) (ha : (D i).1 = 48) (h : LQ ns np nu nk nv fu B wd A D i sp Sc Sr) (h0 : Sc.1 (102 + 2 * i) 0 = nn (D i).1) (z3 : Sc.1 (102 + 2 * i) 3 = nn (D i).2.2.2.1) (z9 : Sc.1 (102 + 2 * i) 9 = nn (D i).2.1) (c9 : Sr.1 518 (A (i + 1) - 1) = nn (A (D i).2.1)) (hs : seg (Sr.1 518) (A i) [107, nn (D i).2.2.2.2.1, nn k]) (hA : A (i + 1) = A i + 4) : OUT N ns np nu nk nv fu B wd A D t 4 (fun j q => (q = sp ∧ pot D ns j < pot D ns i) ∨ (q = sp + 1 ∧ sp < fu)) (fun n => f_X2_goThrough_14 N (n + 1) (nn i) (nn t) Sc) (fun n => f_X12_run_58 N n (nn (A i)) Sr) := by
  obtain ⟨ow, sn, ou, h1, h2, h3, h4, h5, h6, h7⟩ := h
  have hn := h1.1
  have hA8 := h1.2.2.2.2.2.2.1
  obtain ⟨l1, l2⟩ := PRG_lt h1 hi
  obtain ⟨f1, f2, f3, f4, f5⟩ := h1.2.2.2.2.2.2.2.2.2.1 i hi
  obtain ⟨y1, y2, y3⟩ := f4.2.1 ha
  obtain ⟨y4, y5, y6⟩ := h4 hi ha
  rw [scj_lt hi] at h3
  rw [ha] at h0
  have x1 : Sr.1 518 (A i) = nn 107 := (seg_hd hs).1
  have x2 : Sr.1 518 (A i + 1) = nn (D i).2.2.2.2.1 := (seg_hd (seg_hd hs).2).1
  rw [hA, show A i + 4 - 1 = A i + 3 by omega] at c9
  obtain ⟨Sc', Sr', v, r1, r2, r3, r4, r5⟩ := nx (N := N) hN y1 y2 h3.1 y6
  have w1 : PRG Sc' Sr' ns np nu nk nv wd A D := PRG_g h1 (fun q j hq _ => by rw [kc_q r3 (by omega)]) (kc_q r4 (by omega)) (by rw [kc_q r4 (by omega)])
  have w2 : KDS Sc' Sr' nk wd := KDS_x h2 h3.1.2.2.2.2.2.2.1 (fun q a b => kc_q r3 (by omega)) (kc_q r4 (by omega))
  have w3 : RT Sc' Sr' ow nk wd sn nv (D i).2.2.2.2.2 := by
    refine ⟨DBR_k h3.1 r3 r4, fun u hu => by rw [kc_q r3 (by omega), kc_q r4 (by omega)]; exact h3.2.1 u hu, fun b' d' κ' z => ?_⟩
    obtain ⟨q1, q2, q3⟩ := h3.2.2 b' d' κ' z
    obtain ⟨q4, q5⟩ := y3 b' d' κ' z
    exact ⟨q1, q2, CST_k q3 q1 (by omega) (by omega) r3 r4⟩
  have w4 : RM Sc' Sr' fu sp ou := RM_x h5 (kc_q r3 (by omega)) (kc_q r3 (by omega)) ⟨by rw [kc_q r4 (by omega)], by rw [kc_q r4 (by omega)], by rw [kc_q r4 (by omega)], by rw [kc_q r4 (by omega)]; exact h5.2.2.2.2.2.2.2.2.2.2⟩ (kc_q r4 (by omega))
  have gg : ∀ n, f_X2_goThrough_14 N (n + 1) (nn i) (nn t) Sc = if v = 0 then f_X2_goThrough_14 N n (nn (D i).2.1) (nn (t + 1)) Sc' else xcI (f_X2_spend N Sc') (fun v69 S68 => if v69 = 0 then some (.inl (some (.inl 1)), S68) else f_X2_goThrough_14 N n (nn (i + 1)) (nn (t + 1)) S68) := fun n => by
    rw [c_turn2 h1 hi ht (Or.inl ha), g_disp (by omega) h0 (by decide), if_neg (by decide), if_neg (by decide), if_pos rfl, z3, xcI_of r1, kc_q r3 (q := 102 + 2 * i) (by omega), z9]
    unfold f_X2_goThrough_212
    rw [nn_addl]
  have rr : ∀ n, f_X12_run_58 N (n + 1) (nn (A i)) Sr = if v = 0 then f_X12_run_58 N n (nn (A (D i).2.1)) Sr' else xcI (f_X12_pay N Sr') (fun v164 S163 => if v164 = 0 then f_X12_run_58 N n (-1) S163 else f_X12_run_58 N n (nn (A (i + 1))) S163) := fun n => by
    rw [r_turn h1 l1, r_disp (by omega) x1 (by decide), if_neg (by decide), if_neg (by decide), if_neg (by decide), if_neg (by decide), if_neg (by decide), if_neg (by decide), if_neg (by decide), if_pos rfl]
    simp only [nn_addl, show (nn (A i + 1)).toNatClampNeg = A i + 1 from nn_t (by omega), x2, if_pos ((xin_nn (a := A i + 1) (n := 3000) (by omega)).mpr (by omega)), if_pos ((xin_nn (a := A i + 3) (n := 3000) (by omega)).mpr (by omega)), show (nn (A i + 3)).toNatClampNeg = A i + 3 from nn_t (by omega)]
    rw [xcI_of r2, kc_q r4 (q := 518) (by omega), c9, hA]
    by_cases q : v = 0
    · rw [if_pos q, if_pos q, xcI_i]
    · rw [if_neg q, if_neg q]
      rcases p_spend (N := N) w4 with ⟨s1, s2, s3⟩ | ⟨s1, s2, s3, s4⟩
      · rw [xcI_of s3, xcI_of s3, if_pos rfl, if_pos rfl]
        unfold f_X12_step_317
        rw [xcI_i]
      · rw [xcI_of s3, xcI_of s3, if_neg (by decide), if_neg (by decide)]
        unfold f_X12_step_317
        rw [xcI_i]
  rcases r5 with q | ⟨q, hq⟩
  · subst q
    obtain ⟨u1, u2⟩ := LQ_aim (B := B) hi (by unfold tga; omega) w1 w2 w3 w4 (by omega) (by omega)
    exact Or.inr ⟨_, sp, _, _, u1, fun n => (gg n).trans (if_pos rfl), ⟨1, by omega, fun n => (rr n).trans (if_pos rfl)⟩, u2, Or.inl ⟨rfl, pot_aim h1 hi (Or.inl ha)⟩⟩
  · subst q
    rcases p_spend (N := N) w4 with ⟨s1, s2, s3⟩ | ⟨s1, s2, s3, s4⟩
    · refine Or.inl ⟨1, Sc', Sr', fun n => (gg n).trans (by rw [if_neg (by decide), xcI_of s2, if_pos rfl]), ⟨2, by omega, fun n => ?_⟩, ow, sn, ou, sp, w1, w2, RT_0 w3, w4, by omega, by omega⟩
      show f_X12_run_58 N (n + 1 + 1) _ _ = _
      rw [rr (n + 1), if_neg (by decide), xcI_of s3, if_pos rfl]
      exact r_stop1
    · refine Or.inr ⟨i + 1, sp + 1, sI Sc' 409 10 (nn (sp + 1)), sI Sr' 503 36 (nn (sp + 1)), hi, fun n => (gg n).trans (by rw [if_neg (by decide), xcI_of s2, if_neg (by decide)]), ⟨1, by omega, fun n => (rr n).trans (by rw [if_neg (by decide), xcI_of s3, if_neg (by decide)])⟩, ⟨ow, sn, ou, ?_, ?_, ?_, fun g1 g2 => absurd g2 (f3 (by omega) g1), s4, by omega, by omega⟩, Or.inr ⟨rfl, s1⟩⟩
      · exact PRG_g w1 (kpg_s (kpg_r _) (by omega)) (by simp (disch := omega) only [nn_add, nn_addl, l_add_nn, nn_sub, nn_subl, nn_m1, nn_mull, nn_t, nn_i, l_t, nn_lt, nn_le, nn_eq, nn_ltl, l_lt_nn, nn_lel, l_le_nn, nn_eql, l_eql, nn_nm1, xin_nn, xin_l, m1_lt, m1_le, m1_p, m1_z, dlt_T, dlt_F, dle_T, dle_F, deq_T, deq_F, sI_c, sI_n, sI_J, sI_E, sJ_c, sJ_n, sJ_I, sJ_E, sE_I, sE_J, sE_E, xcI_i, xcJ_i, xcR_i, xcV_i, xcI_e, xcJ_e, xcR_e, xcV_e, if_true, if_false, ite_true, ite_false, true_and, and_true, false_and, and_false, or_true, true_or, or_false, false_or, not_true_eq_false, not_false_eq_true, eq_self, ne_eq, ↓reduceIte, Nat.reduceEqDiff, Nat.reduceLT, Nat.reduceLeDiff, Nat.reduceAdd, Nat.reduceMul, Nat.reduceSub, Int32.reduceLT, Int32.reduceLE, reduceCtorEq]) (by simp (disch := omega) only [nn_add, nn_addl, l_add_nn, nn_sub, nn_subl, nn_m1, nn_mull, nn_t, nn_i, l_t, nn_lt, nn_le, nn_eq, nn_ltl, l_lt_nn, nn_lel, l_le_nn, nn_eql, l_eql, nn_nm1, xin_nn, xin_l, m1_lt, m1_le, m1_p, m1_z, dlt_T, dlt_F, dle_T, dle_F, deq_T, deq_F, sI_c, sI_n, sI_J, sI_E, sJ_c, sJ_n, sJ_I, sJ_E, sE_I, sE_J, sE_E, xcI_i, xcJ_i, xcR_i, xcV_i, xcI_e, xcJ_e, xcR_e, xcV_e, if_true, if_false, ite_true, ite_false, true_and, and_true, false_and, and_false, or_true, true_or, or_false, false_or, not_true_eq_false, not_false_eq_true, eq_self, ne_eq, ↓reduceIte, Nat.reduceEqDiff, Nat.reduceLT, Nat.reduceLeDiff, Nat.reduceAdd, Nat.reduceMul, Nat.reduceSub, Int32.reduceLT, Int32.reduceLE, reduceCtorEq])
      · exact KDS_x w2 h3.1.2.2.2.2.2.2.1 (fun q a b => by simp (disch := omega) only [nn_add, nn_addl, l_add_nn, nn_sub, nn_subl, nn_m1, nn_mull, nn_t, nn_i, l_t, nn_lt, nn_le, nn_eq, nn_ltl, l_lt_nn, nn_lel, l_le_nn, nn_eql, l_eql, nn_nm1, xin_nn, xin_l, m1_lt, m1_le, m1_p, m1_z, dlt_T, dlt_F, dle_T, dle_F, deq_T, deq_F, sI_c, sI_n, sI_J, sI_E, sJ_c, sJ_n, sJ_I, sJ_E, sE_I, sE_J, sE_E, xcI_i, xcJ_i, xcR_i, xcV_i, xcI_e, xcJ_e, xcR_e, xcV_e, if_true, if_false, ite_true, ite_false, true_and, and_true, false_and, and_false, or_true, true_or, or_false, false_or, not_true_eq_false, not_false_eq_true, eq_self, ne_eq, ↓reduceIte, Nat.reduceEqDiff, Nat.reduceLT, Nat.reduceLeDiff, Nat.reduceAdd, Nat.reduceMul, Nat.reduceSub, Int32.reduceLT, Int32.reduceLE, reduceCtorEq]) (by simp (disch := omega) only [nn_add, nn_addl, l_add_nn, nn_sub, nn_subl, nn_m1, nn_mull, nn_t, nn_i, l_t, nn_lt, nn_le, nn_eq, nn_ltl, l_lt_nn, nn_lel, l_le_nn, nn_eql, l_eql, nn_nm1, xin_nn, xin_l, m1_lt, m1_le, m1_p, m1_z, dlt_T, dlt_F, dle_T, dle_F, deq_T, deq_F, sI_c, sI_n, sI_J, sI_E, sJ_c, sJ_n, sJ_I, sJ_E, sE_I, sE_J, sE_E, xcI_i, xcJ_i, xcR_i, xcV_i, xcI_e, xcJ_e, xcR_e, xcV_e, if_true, if_false, ite_true, ite_false, true_and, and_true, false_and, and_false, or_true, true_or, or_false, false_or, not_true_eq_false, not_false_eq_true, eq_self, ne_eq, ↓reduceIte, Nat.reduceEqDiff, Nat.reduceLT, Nat.reduceLeDiff, Nat.reduceAdd, Nat.reduceMul, Nat.reduceSub, Int32.reduceLT, Int32.reduceLE, reduceCtorEq])
      · have w5 : RT Sc' Sr' ow nk wd sn nv (scj D ns (i + 1)) := by
          refine ⟨w3.1, w3.2.1, fun b' d' κ' z => ?_⟩
          rcases f1 (by omega) b' d' κ' z with g | ⟨_, g1, g2, g3⟩
          · exact w3.2.2 b' d' κ' g
          · rw [g1, g2, g3]
            exact ⟨y1, y2, hq⟩
        exact RT_x w5 (fun q hq => by unfold rwC at hq; simp (disch := omega) only [nn_add, nn_addl, l_add_nn, nn_sub, nn_subl, nn_m1, nn_mull, nn_t, nn_i, l_t, nn_lt, nn_le, nn_eq, nn_ltl, l_lt_nn, nn_lel, l_le_nn, nn_eql, l_eql, nn_nm1, xin_nn, xin_l, m1_lt, m1_le, m1_p, m1_z, dlt_T, dlt_F, dle_T, dle_F, deq_T, deq_F, sI_c, sI_n, sI_J, sI_E, sJ_c, sJ_n, sJ_I, sJ_E, sE_I, sE_J, sE_E, xcI_i, xcJ_i, xcR_i, xcV_i, xcI_e, xcJ_e, xcR_e, xcV_e, if_true, if_false, ite_true, ite_false, true_and, and_true, false_and, and_false, or_true, true_or, or_false, false_or, not_true_eq_false, not_false_eq_true, eq_self, ne_eq, ↓reduceIte, Nat.reduceEqDiff, Nat.reduceLT, Nat.reduceLeDiff, Nat.reduceAdd, Nat.reduceMul, Nat.reduceSub, Int32.reduceLT, Int32.reduceLE, reduceCtorEq]) rfl (fun q hq => by unfold rwR at hq; simp (disch := omega) only [nn_add, nn_addl, l_add_nn, nn_sub, nn_subl, nn_m1, nn_mull, nn_t, nn_i, l_t, nn_lt, nn_le, nn_eq, nn_ltl, l_lt_nn, nn_lel, l_le_nn, nn_eql, l_eql, nn_nm1, xin_nn, xin_l, m1_lt, m1_le, m1_p, m1_z, dlt_T, dlt_F, dle_T, dle_F, deq_T, deq_F, sI_c, sI_n, sI_J, sI_E, sJ_c, sJ_n, sJ_I, sJ_E, sE_I, sE_J, sE_E, xcI_i, xcJ_i, xcR_i, xcV_i, xcI_e, xcJ_e, xcR_e, xcV_e, if_true, if_false, ite_true, ite_false, true_and, and_true, false_and, and_false, or_true, true_or, or_false, false_or, not_true_eq_false, not_false_eq_true, eq_self, ne_eq, ↓reduceIte, Nat.reduceEqDiff, Nat.reduceLT, Nat.reduceLeDiff, Nat.reduceAdd, Nat.reduceMul, Nat.reduceSub, Int32.reduceLT, Int32.reduceLE, reduceCtorEq]) (by simp (disch := omega) only [nn_add, nn_addl, l_add_nn, nn_sub, nn_subl, nn_m1, nn_mull, nn_t, nn_i, l_t, nn_lt, nn_le, nn_eq, nn_ltl, l_lt_nn, nn_lel, l_le_nn, nn_eql, l_eql, nn_nm1, xin_nn, xin_l, m1_lt, m1_le, m1_p, m1_z, dlt_T, dlt_F, dle_T, dle_F, deq_T, deq_F, sI_c, sI_n, sI_J, sI_E, sJ_c, sJ_n, sJ_I, sJ_E, sE_I, sE_J, sE_E, xcI_i, xcJ_i, xcR_i, xcV_i, xcI_e, xcJ_e, xcR_e, xcV_e, if_true, if_false, ite_true, ite_false, true_and, and_true, false_and, and_false, or_true, true_or, or_false, false_or, not_true_eq_false, not_false_eq_true, eq_self, ne_eq, ↓reduceIte, Nat.reduceEqDiff, Nat.reduceLT, Nat.reduceLeDiff, Nat.reduceAdd, Nat.reduceMul, Nat.reduceSub, Int32.reduceLT, Int32.reduceLE, reduceCtorEq])
end NX
